set_option maxRecDepth 100000 in
theorem qk_40 : qmD (yX4_hear, cX4_hear, 4, some .int, 5, qc40) (806, 58, 804, 805) [0, 0, 0, 0, 0, 0, 261, 0, 0, 0, 260, 0, 0, 0, 0, 0, 0, 0, 260, 0, 0, 0, 0, 0, 0, 0, 0, 0, 0, 261, 0, 0, 260, 0, 0, 0, 0, 260, 0, 0, 0, 0, 0, 0, 0, 261, 0, 0, 261, 0, 0] = true := by decide +kernel
set_option maxRecDepth 100000 in
theorem qk_41 : qmD (yX4_takeOver, cX4_takeOver, 2, none, 5, qc41) (850, 58, 848, 849) [0, 0, 261, 261, 0, 260, 0, 260, 851, 0] = true := by decide +kernel
set_option maxRecDepth 100000 in
theorem qk_42 : qmD (yX0_look, cX0_look, 5, none, 1, qc42) (547, 53, 545, 546) [] = true := by decide +kernel
set_option maxRecDepth 100000 in
theorem qk_43 : qmD (yX5_addFirm, cX5_addFirm, 5, some .int, 6, qc43) (530, 59, 528, 529) [0, 318, 0, 0, 0, 0, 0, 306, 0, 318, 0, 0, 0, 308, 0, 318, 0, 0, 0, 310, 0, 318, 0, 0, 0, 312, 0, 318, 0, 0, 0, 0, 318, 0, 0, 318, 0, 318, 0] = true := by decide +kernel
set_option maxRecDepth 100000 in
theorem qk_44 : qmD (yX5_firmWith, cX5_firmWith, 4, some .int, 6, qc44) (526, 59, 524, 525) [0, 0, 0, 0, 318, 0, 0, 312, 0, 0, 0, 0, 0, 306, 0, 0, 0, 0, 0, 0, 308, 0, 0, 0, 0, 0, 0, 0, 0, 0] = true := by decide +kernel
set_option maxRecDepth 100000 in
theorem qk_45 : qmD (yX5_isShown, cX5_isShown, 3, some .boolean, 6, qc45) (557, 59, 555, 556) [0, 301, 0, 0, 0, 0, 304, 0, 0, 0, 0, 0, 0, 0, 0] = true := by decide +kernel
set_option maxRecDepth 100000 in
theorem qk_46 : qmD (yX5_average, cX5_average, 5, some .int, 6, qc46) (651, 59, 649, 650) [0, 308, 0, 0, 0, 306, 0, 0, 0, 0, 0, 0, 0, 0, 0, 0, 0, 0, 306, 0, 0, 0, 0, 310, 0, 0, 0, 0, 0, 0, 0, 0, 0, 0, 310, 0, 0, 0, 0, 0, 0, 0] = true := by decide +kernel
set_option maxRecDepth 100000 in
theorem qk_47 : qmD (yX0_look, cX0_look, 5, none, 1, qc47) (547, 53, 545, 546) [] = true := by decide +kernel
set_option maxRecDepth 100000 in
theorem qk_48 : qmD (yX6_inForce, cX6_inForce, 3, some .int, 7, qc48) (501, 52, 499, 500) [0, 98, 0, 0, 0, 0, 0, 0, 88, 0, 0, 0, 0, 0, 0, 0, 0, 0, 0] = true := by decide +kernel
set_option maxRecDepth 100000 in
theorem qk_49 : qmD (yX6_dueBy, cX6_dueBy, 4, some .int, 7, qc49) (505, 52, 503, 504) [0, 0, 0, 0, 98, 0, 0, 96, 0, 0, 0, 0, 0, 0, 0, 0, 92, 0, 0, 0, 506, 0, 0, 0, 90, 0, 0, 0, 94, 0, 0, 0, 0, 0, 96, 0, 0, 0, 0, 506, 0] = true := by decide +kernel
set_option maxRecDepth 100000 in
theorem qk_50 : qmD (yX6_takeOver, cX6_takeOver, 2, none, 7, qc50) (479, 52, 477, 478) [0, 0, 98, 98, 0, 88, 0, 88, 480, 0, 90, 0, 90, 480, 0, 92, 0, 92, 480, 0, 94, 0, 94, 480, 0, 96, 0, 96, 480, 0] = true := by decide +kernel
set_option maxRecDepth 100000 in
theorem qk_51 : qmD (yX0_look, cX0_look, 5, none, 1, qc51) (547, 53, 545, 546) [] = true := by decide +kernel
set_option maxRecDepth 100000 in
theorem qk_52 : qmD (yX7_append, cX7_append, 5, none, 8, qc52) (376, 51, 374, 375) [0, 0, 0, 0, 0, 0, 0, 119, 0, 0, 0, 116, 0, 119, 0, 0, 0, 0, 0, 377, 0, 0, 0, 0, 0, 0, 119, 0, 0, 119, 0, 0, 0] = true := by decide +kernel
set_option maxRecDepth 100000 in
theorem qk_53 : qmD (yX7_read, cX7_read, 4, some .int, 8, qc53) (389, 51, 387, 388) [0, 117, 0, 99, 0, 0, 0, 0, 0, 0, 0, 0, 119, 0, 0, 0, 0, 0, 116, 0, 0, 0, 0, 0, 0, 0, 390, 0, 0, 0, 0, 0, 402, 0, 0, 0, 0, 0, 0, 0, 0, 0, 0, 117, 0, 99, 0, 0, 99, 0, 0, 0, 0, 0, 0, 0, 119, 0] = true := by decide +kernel
set_option maxRecDepth 100000 in
theorem qk_54 : qmD (yX7_endOfToken, cX7_endOfToken, 3, some .int, 8, qc54) (393, 51, 392, 0) [0, 0, 0, 0, 0, 0, 394, 0, 0, 0, 119, 0, 0, 0, 394, 0, 0, 0, 0, 0, 398, 0, 0, 0, 119, 0, 0, 0, 398, 0, 0, 0, 0, 0] = true := by decide +kernel
set_option maxRecDepth 100000 in
theorem qk_55 : qmD (yX7_isLetter, cX7_isLetter, 3, some .boolean, 8, qc55) (397, 51, 396, 1) [0, 116, 0, 0, 0, 0, 0, 0, 0, 0, 0, 0, 0, 0, 0, 0, 0, 0, 0, 0, 0] = true := by decide +kernel
set_option maxRecDepth 100000 in
theorem qk_56 : qmD (yX7_isDigit, cX7_isDigit, 2, some .boolean, 8, qc56) (401, 51, 400, 2) [0, 116, 0, 0, 0, 0, 0, 116, 0, 0, 0, 0, 0, 0, 0, 0] = true := by decide +kernel
set_option maxRecDepth 100000 in
theorem qk_57 : qmD (yX7_canStand, cX7_canStand, 5, some .boolean, 8, qc57) (405, 51, 404, 3) [0, 117, 99, 0, 0, 0, 0, 0, 0, 0, 0, 0, 0, 117, 89, 0, 0, 0, 0, 0, 0, 0, 117, 89, 0, 0, 0, 0, 0, 0, 0, 406, 0, 0, 0, 117, 91, 0, 0, 0, 0, 406, 0, 0, 0, 117, 93, 0, 0, 0, 0, 406, 0, 0, 0, 117, 95, 0, 0, 0, 0, 406, 0, 0, 0, 117, 97, 0, 0, 0, 0, 406, 0, 0, 0, 415, 0, 0, 424, 0] = true := by decide +kernel
set_option maxRecDepth 100000 in
theorem qk_58 : qmD (yX7_putNumber, cX7_putNumber, 7, some .boolean, 8, qc58) (409, 51, 408, 4) [0, 0, 0, 410, 0, 0, 0, 0, 0, 0, 414, 0, 0, 117, 99, 0, 0, 0, 0, 0, 0, 0, 117, 99, 0, 0, 0, 0] = true := by decide +kernel
set_option maxRecDepth 100000 in
theorem qk_59 : qmD (yX7_numberAt, cX7_numberAt, 6, some .int, 8, qc59) (413, 51, 412, 5) [0, 116, 0, 0, 0, 0, 0, 0, 0, 0, 0, 0, 0, 0, 0, 0, 0, 398, 0, 0, 0, 0, 0, 0, 0, 0, 0, 0, 0, 0, 0, 0, 0, 0, 0, 0, 0, 0, 0, 116, 0, 0, 0, 0, 0, 0, 0, 0, 0, 0] = true := by decide +kernel
set_option maxRecDepth 100000 in
theorem qk_60 : qmD (yX7_fixedToken, cX7_fixedToken, 1, some (.object "java/lang/String"), 0, qc60) (417, 51, 416, 0) [0, 0, 0, 0, 0, 0, 0, 0, 0, 0, 0, 0, 0, 0] = true := by decide +kernel
set_option maxRecDepth 100000 in
theorem qk_61 : qmD (yX7_isToken, cX7_isToken, 5, some .boolean, 8, qc61) (427, 51, 426, 6) [0, 428, 0, 0, 0, 0, 0, 0, 0, 0, 0, 0, 0, 0, 116, 0, 0, 0, 0, 0, 0, 438, 0, 0, 0, 0, 0, 0, 0] = true := by decide +kernel
set_option maxRecDepth 100000 in
theorem qk_62 : qmD (yX0_look, cX0_look, 5, none, 1, qc62) (547, 53, 545, 546) [] = true := by decide +kernel
set_option maxRecDepth 100000 in
theorem qk_63 : qmD (yX8_forget, cX8_forget, 1, none, 9, qc63) (492, 54, 490, 491) [0, 0, 148, 0] = true := by decide +kernel
set_option maxRecDepth 100000 in
theorem qk_64 : qmD (yX8_use, cX8_use, 4, none, 9, qc64) (542, 54, 540, 541) [0, 148, 0, 0, 0, 0, 0, 148, 0, 0, 149, 0, 0, 0, 0, 0, 0, 144, 0, 0, 0, 0, 543, 0, 0, 0, 0] = true := by decide +kernel
set_option maxRecDepth 100000 in
theorem qk_65 : qmD (yX8_dueFor, cX8_dueFor, 2, some .int, 9, qc65) (552, 54, 550, 551) [0, 0, 0, 553, 0, 0, 0, 0, 144, 0, 0, 0] = true := by decide +kernel
set_option maxRecDepth 100000 in
theorem qk_66 : qmD (yX8_makeDueRows, cX8_makeDueRows, 2, none, 9, qc66) (623, 54, 621, 622) [0, 149, 0, 0, 0, 149, 0, 0, 0, 0, 149, 624, 0, 0, 149, 0, 0, 149, 0, 0] = true := by decide +kernel
set_option maxRecDepth 100000 in
theorem qk_67 : qmD (yX8_makeWayRows, cX8_makeWayRows, 2, none, 9, qc67) (588, 54, 586, 587) [0, 150, 0, 0, 0, 150, 0, 0, 0, 0, 150, 589, 0, 0, 150, 0, 0, 150, 0, 0] = true := by decide +kernel
set_option maxRecDepth 100000 in
theorem qk_68 : qmD (yX8_leastFor, cX8_leastFor, 3, some .int, 9, qc68) (647, 54, 645, 646) [0, 0, 0, 149, 603, 0, 0, 145, 0, 0, 0, 0, 0, 0, 0] = true := by decide +kernel
set_option maxRecDepth 100000 in
theorem qk_69 : qmD (yX8_mostFor, cX8_mostFor, 3, some .int, 9, qc69) (639, 54, 637, 638) [0, 0, 0, 149, 603, 0, 0, 146, 0, 0, 0, 0, 0, 0, 0] = true := by decide +kernel
set_option maxRecDepth 100000 in
theorem qk_70 : qmD (yX8_waysFor, cX8_waysFor, 3, some .int, 9, qc70) (602, 54, 600, 601) [0, 0, 0, 150, 603, 0, 0, 147, 0, 0, 0, 0, 0, 0, 0] = true := by decide +kernel
set_option maxRecDepth 100000 in
theorem qk_71 : qmD (yX8_isMade, cX8_isMade, 3, some .boolean, 0, qc71) (605, 54, 604, 0) [0, 0, 0, 0, 0, 0, 0, 0, 0, 0, 0, 0, 0, 0, 0, 0] = true := by decide +kernel
set_option maxRecDepth 100000 in
theorem qk_72 : qmD (yX8_makeWayRow, cX8_makeWayRow, 7, none, 9, qc72) (592, 54, 591, 9) [0, 0, 0, 0, 0, 0, 0, 0, 0, 0, 0, 593, 0, 0, 0, 594, 0, 0, 0, 0, 0, 0, 147, 0, 0, 0, 0, 0, 0, 0, 0, 0, 0, 0, 0, 0, 0, 147, 0, 0, 0, 0, 598, 0, 0, 0, 0, 0, 0] = true := by decide +kernel
set_option maxRecDepth 100000 in
theorem qk_73 : qmD (yX8_makeDueRow, cX8_makeDueRow, 8, none, 9, qc73) (627, 54, 626, 11) [0, 0, 0, 0, 0, 0, 0, 0, 0, 593, 0, 0, 0, 594, 0, 0, 145, 0, 0, 0, 0, 0, 0, 0, 0, 0, 144, 0, 0, 0, 0, 0, 146, 0, 0, 0, 0, 0, 0, 0, 0, 0, 144, 0, 0, 0, 0, 0, 0, 0, 0, 0, 0, 0, 0, 0, 145, 0, 0, 0, 0, 0, 0, 0, 0, 0, 144, 0, 0, 0, 593, 0, 0, 0, 146, 0, 0, 0, 0, 0, 0, 0, 0, 0, 144, 0, 0, 0, 597, 0, 0, 0, 0, 145, 0, 0, 0, 0, 0, 0, 146, 0, 0, 0, 0, 0, 0, 0, 0] = true := by decide +kernel
set_option maxRecDepth 100000 in
theorem qk_74 : qmD (yX8_lowestLast, cX8_lowestLast, 2, some .int, 0, qc74) (596, 54, 595, 0) [0, 0, 0, 0, 0, 0, 0, 0, 597, 0] = true := by decide +kernel
set_option maxRecDepth 100000 in
theorem qk_75 : qmD (yX0_look, cX0_look, 5, none, 1, qc75) (547, 53, 545, 546) [] = true := by decide +kernel
set_option maxRecDepth 100000 in
theorem qk_76 : qmD (yX9_type, cX9_type, 4, some .int, 10, qc76) (369, 50, 367, 368) [0, 0, 0, 370, 0, 0, 0, 0, 344, 120, 0, 0, 0, 0, 0, 0, 0, 344, 0, 0, 373, 0, 344, 120, 0] = true := by decide +kernel
set_option maxRecDepth 100000 in
theorem qk_77 : qmD (yX9_clear, cX9_clear, 2, some .int, 10, qc77) (381, 50, 379, 380) [0, 344, 120, 0, 0, 344, 0, 120, 0, 0] = true := by decide +kernel
set_option maxRecDepth 100000 in
theorem qk_78 : qmD (yX9_rules, cX9_rules, 2, some .int, 10, qc78) (385, 50, 383, 384) [0, 344, 386, 0, 0, 0, 0, 0, 0, 0, 0, 345, 0, 344, 118, 476, 0, 346, 167, 489, 0, 344, 0, 120, 0, 345, 100, 0] = true := by decide +kernel
set_option maxRecDepth 100000 in
theorem qk_79 : qmD (yX9_due, cX9_due, 3, some .int, 10, qc79) (497, 50, 495, 496) [0, 0, 0, 370, 0, 0, 0, 0, 370, 0, 0, 0, 0, 345, 0, 345, 0, 498, 0, 502, 0] = true := by decide +kernel
set_option maxRecDepth 100000 in
theorem qk_80 : qmD (yX9_pay, cX9_pay, 7, some .int, 10, qc80) (512, 50, 510, 511) [0, 513, 0, 0, 516, 0, 0, 0, 0, 370, 0, 0, 0, 0, 370, 0, 0, 0, 0, 0, 0, 347, 0, 0, 297, 0, 0, 347, 0, 0, 299, 0, 0, 0, 0, 0, 0, 0, 0, 0, 0, 0] = true := by decide +kernel
set_option maxRecDepth 100000 in
theorem qk_81 : qmD (yX9_firm, cX9_firm, 7, some .int, 10, qc81) (522, 50, 520, 521) [0, 513, 0, 0, 516, 0, 0, 516, 0, 0, 0, 0, 0, 0, 0, 0, 0, 0, 0, 0, 0, 0, 0, 370, 0, 0, 0, 0, 347, 0, 0, 0, 0, 0, 0, 0, 0, 0, 0, 0, 523, 0, 0, 0, 0, 0, 0, 0, 0, 0, 0, 348, 275, 527, 0] = true := by decide +kernel
