set_option maxRecDepth 100000 in
theorem qw_40 : znt lw_tbl 806 = some (.code yX4_hear cX4_hear 4 (some .int)) := by rfl
set_option maxRecDepth 100000 in
theorem qv_40 : (qmG (fun _ => true) (zinA 58) (zinA 804) (zinA 805) (yX4_hear, cX4_hear, 4, some .int, 5, qc40) && qfD yX4_hear.cls 4 cX4_hear (qall qc40) [0, 0, 0, 0, 0, 0, 261, 0, 0, 0, 260, 0, 0, 0, 0, 0, 0, 0, 260, 0, 0, 0, 0, 0, 0, 0, 0, 0, 0, 261, 0, 0, 260, 0, 0, 0, 0, 260, 0, 0, 0, 0, 0, 0, 0, 261, 0, 0, 261, 0, 0]) = true := by decide +kernel
theorem qk_40 : qmok (yX4_hear, cX4_hear, 4, some .int, 5, qc40) := qmE_ok qw_40 rfl qv_40
set_option maxRecDepth 100000 in
theorem qw_41 : znt lw_tbl 850 = some (.code yX4_takeOver cX4_takeOver 2 none) := by rfl
set_option maxRecDepth 100000 in
theorem qv_41 : (qmG (fun _ => true) (zinA 58) (zinA 848) (zinA 849) (yX4_takeOver, cX4_takeOver, 2, none, 5, qc41) && qfD yX4_takeOver.cls 2 cX4_takeOver (qall qc41) [0, 0, 261, 261, 0, 260, 0, 260, 851, 0]) = true := by decide +kernel
theorem qk_41 : qmok (yX4_takeOver, cX4_takeOver, 2, none, 5, qc41) := qmE_ok qw_41 rfl qv_41
set_option maxRecDepth 100000 in
theorem qw_42 : znt lw_tbl 547 = some (.code yX0_look cX0_look 5 none) := by rfl
set_option maxRecDepth 100000 in
theorem qv_42 : (qmG (fun _ => true) (zinA 53) (zinA 545) (zinA 546) (yX0_look, cX0_look, 5, none, 1, qc42) && qfD yX0_look.cls 5 cX0_look (qall qc42) []) = true := by decide +kernel
theorem qk_42 : qmok (yX0_look, cX0_look, 5, none, 1, qc42) := qmE_ok qw_42 rfl qv_42
set_option maxRecDepth 100000 in
theorem qw_43 : znt lw_tbl 530 = some (.code yX5_addFirm cX5_addFirm 5 (some .int)) := by rfl
set_option maxRecDepth 100000 in
theorem qv_43 : (qmG (fun _ => true) (zinA 59) (zinA 528) (zinA 529) (yX5_addFirm, cX5_addFirm, 5, some .int, 6, qc43) && qfD yX5_addFirm.cls 5 cX5_addFirm (qall qc43) [0, 318, 0, 0, 0, 0, 0, 306, 0, 318, 0, 0, 0, 308, 0, 318, 0, 0, 0, 310, 0, 318, 0, 0, 0, 312, 0, 318, 0, 0, 0, 0, 318, 0, 0, 318, 0, 318, 0]) = true := by decide +kernel
theorem qk_43 : qmok (yX5_addFirm, cX5_addFirm, 5, some .int, 6, qc43) := qmE_ok qw_43 rfl qv_43
set_option maxRecDepth 100000 in
theorem qw_44 : znt lw_tbl 526 = some (.code yX5_firmWith cX5_firmWith 4 (some .int)) := by rfl
set_option maxRecDepth 100000 in
theorem qv_44 : (qmG (fun _ => true) (zinA 59) (zinA 524) (zinA 525) (yX5_firmWith, cX5_firmWith, 4, some .int, 6, qc44) && qfD yX5_firmWith.cls 4 cX5_firmWith (qall qc44) [0, 0, 0, 0, 318, 0, 0, 312, 0, 0, 0, 0, 0, 306, 0, 0, 0, 0, 0, 0, 308, 0, 0, 0, 0, 0, 0, 0, 0, 0]) = true := by decide +kernel
theorem qk_44 : qmok (yX5_firmWith, cX5_firmWith, 4, some .int, 6, qc44) := qmE_ok qw_44 rfl qv_44
set_option maxRecDepth 100000 in
theorem qw_45 : znt lw_tbl 557 = some (.code yX5_isShown cX5_isShown 3 (some .boolean)) := by rfl
set_option maxRecDepth 100000 in
theorem qv_45 : (qmG (fun _ => true) (zinA 59) (zinA 555) (zinA 556) (yX5_isShown, cX5_isShown, 3, some .boolean, 6, qc45) && qfD yX5_isShown.cls 3 cX5_isShown (qall qc45) [0, 301, 0, 0, 0, 0, 304, 0, 0, 0, 0, 0, 0, 0, 0]) = true := by decide +kernel
theorem qk_45 : qmok (yX5_isShown, cX5_isShown, 3, some .boolean, 6, qc45) := qmE_ok qw_45 rfl qv_45
set_option maxRecDepth 100000 in
theorem qw_46 : znt lw_tbl 651 = some (.code yX5_average cX5_average 5 (some .int)) := by rfl
set_option maxRecDepth 100000 in
theorem qv_46 : (qmG (fun _ => true) (zinA 59) (zinA 649) (zinA 650) (yX5_average, cX5_average, 5, some .int, 6, qc46) && qfD yX5_average.cls 5 cX5_average (qall qc46) [0, 308, 0, 0, 0, 306, 0, 0, 0, 0, 0, 0, 0, 0, 0, 0, 0, 0, 306, 0, 0, 0, 0, 310, 0, 0, 0, 0, 0, 0, 0, 0, 0, 0, 310, 0, 0, 0, 0, 0, 0, 0]) = true := by decide +kernel
theorem qk_46 : qmok (yX5_average, cX5_average, 5, some .int, 6, qc46) := qmE_ok qw_46 rfl qv_46
set_option maxRecDepth 100000 in
theorem qw_47 : znt lw_tbl 547 = some (.code yX0_look cX0_look 5 none) := by rfl
set_option maxRecDepth 100000 in
theorem qv_47 : (qmG (fun _ => true) (zinA 53) (zinA 545) (zinA 546) (yX0_look, cX0_look, 5, none, 1, qc47) && qfD yX0_look.cls 5 cX0_look (qall qc47) []) = true := by decide +kernel
theorem qk_47 : qmok (yX0_look, cX0_look, 5, none, 1, qc47) := qmE_ok qw_47 rfl qv_47
set_option maxRecDepth 100000 in
theorem qw_48 : znt lw_tbl 501 = some (.code yX6_inForce cX6_inForce 3 (some .int)) := by rfl
set_option maxRecDepth 100000 in
theorem qv_48 : (qmG (fun _ => true) (zinA 52) (zinA 499) (zinA 500) (yX6_inForce, cX6_inForce, 3, some .int, 7, qc48) && qfD yX6_inForce.cls 3 cX6_inForce (qall qc48) [0, 98, 0, 0, 0, 0, 0, 0, 88, 0, 0, 0, 0, 0, 0, 0, 0, 0, 0]) = true := by decide +kernel
theorem qk_48 : qmok (yX6_inForce, cX6_inForce, 3, some .int, 7, qc48) := qmE_ok qw_48 rfl qv_48
set_option maxRecDepth 100000 in
theorem qw_49 : znt lw_tbl 505 = some (.code yX6_dueBy cX6_dueBy 4 (some .int)) := by rfl
set_option maxRecDepth 100000 in
theorem qv_49 : (qmG (fun _ => true) (zinA 52) (zinA 503) (zinA 504) (yX6_dueBy, cX6_dueBy, 4, some .int, 7, qc49) && qfD yX6_dueBy.cls 4 cX6_dueBy (qall qc49) [0, 0, 0, 0, 98, 0, 0, 96, 0, 0, 0, 0, 0, 0, 0, 0, 92, 0, 0, 0, 506, 0, 0, 0, 90, 0, 0, 0, 94, 0, 0, 0, 0, 0, 96, 0, 0, 0, 0, 506, 0]) = true := by decide +kernel
theorem qk_49 : qmok (yX6_dueBy, cX6_dueBy, 4, some .int, 7, qc49) := qmE_ok qw_49 rfl qv_49
set_option maxRecDepth 100000 in
theorem qw_50 : znt lw_tbl 479 = some (.code yX6_takeOver cX6_takeOver 2 none) := by rfl
set_option maxRecDepth 100000 in
theorem qv_50 : (qmG (fun _ => true) (zinA 52) (zinA 477) (zinA 478) (yX6_takeOver, cX6_takeOver, 2, none, 7, qc50) && qfD yX6_takeOver.cls 2 cX6_takeOver (qall qc50) [0, 0, 98, 98, 0, 88, 0, 88, 480, 0, 90, 0, 90, 480, 0, 92, 0, 92, 480, 0, 94, 0, 94, 480, 0, 96, 0, 96, 480, 0]) = true := by decide +kernel
theorem qk_50 : qmok (yX6_takeOver, cX6_takeOver, 2, none, 7, qc50) := qmE_ok qw_50 rfl qv_50
set_option maxRecDepth 100000 in
theorem qw_51 : znt lw_tbl 547 = some (.code yX0_look cX0_look 5 none) := by rfl
set_option maxRecDepth 100000 in
theorem qv_51 : (qmG (fun _ => true) (zinA 53) (zinA 545) (zinA 546) (yX0_look, cX0_look, 5, none, 1, qc51) && qfD yX0_look.cls 5 cX0_look (qall qc51) []) = true := by decide +kernel
theorem qk_51 : qmok (yX0_look, cX0_look, 5, none, 1, qc51) := qmE_ok qw_51 rfl qv_51
set_option maxRecDepth 100000 in
theorem qw_52 : znt lw_tbl 376 = some (.code yX7_append cX7_append 5 none) := by rfl
set_option maxRecDepth 100000 in
theorem qv_52 : (qmG (fun _ => true) (zinA 51) (zinA 374) (zinA 375) (yX7_append, cX7_append, 5, none, 8, qc52) && qfD yX7_append.cls 5 cX7_append (qall qc52) [0, 0, 0, 0, 0, 0, 0, 119, 0, 0, 0, 116, 0, 119, 0, 0, 0, 0, 0, 377, 0, 0, 0, 0, 0, 0, 119, 0, 0, 119, 0, 0, 0]) = true := by decide +kernel
theorem qk_52 : qmok (yX7_append, cX7_append, 5, none, 8, qc52) := qmE_ok qw_52 rfl qv_52
set_option maxRecDepth 100000 in
theorem qw_53 : znt lw_tbl 389 = some (.code yX7_read cX7_read 4 (some .int)) := by rfl
set_option maxRecDepth 100000 in
theorem qv_53 : (qmG (fun _ => true) (zinA 51) (zinA 387) (zinA 388) (yX7_read, cX7_read, 4, some .int, 8, qc53) && qfD yX7_read.cls 4 cX7_read (qall qc53) [0, 117, 0, 99, 0, 0, 0, 0, 0, 0, 0, 0, 119, 0, 0, 0, 0, 0, 116, 0, 0, 0, 0, 0, 0, 0, 390, 0, 0, 0, 0, 0, 402, 0, 0, 0, 0, 0, 0, 0, 0, 0, 0, 117, 0, 99, 0, 0, 99, 0, 0, 0, 0, 0, 0, 0, 119, 0]) = true := by decide +kernel
theorem qk_53 : qmok (yX7_read, cX7_read, 4, some .int, 8, qc53) := qmE_ok qw_53 rfl qv_53
set_option maxRecDepth 100000 in
theorem qw_54 : znt lw_tbl 393 = some (.code yX7_endOfToken cX7_endOfToken 3 (some .int)) := by rfl
set_option maxRecDepth 100000 in
theorem qv_54 : (qmG (fun _ => true) (zinA 51) (zinA 392) (zinA 0) (yX7_endOfToken, cX7_endOfToken, 3, some .int, 8, qc54) && qfD yX7_endOfToken.cls 3 cX7_endOfToken (qall qc54) [0, 0, 0, 0, 0, 0, 394, 0, 0, 0, 119, 0, 0, 0, 394, 0, 0, 0, 0, 0, 398, 0, 0, 0, 119, 0, 0, 0, 398, 0, 0, 0, 0, 0]) = true := by decide +kernel
theorem qk_54 : qmok (yX7_endOfToken, cX7_endOfToken, 3, some .int, 8, qc54) := qmE_ok qw_54 rfl qv_54
set_option maxRecDepth 100000 in
theorem qw_55 : znt lw_tbl 397 = some (.code yX7_isLetter cX7_isLetter 3 (some .boolean)) := by rfl
set_option maxRecDepth 100000 in
theorem qv_55 : (qmG (fun _ => true) (zinA 51) (zinA 396) (zinA 1) (yX7_isLetter, cX7_isLetter, 3, some .boolean, 8, qc55) && qfD yX7_isLetter.cls 3 cX7_isLetter (qall qc55) [0, 116, 0, 0, 0, 0, 0, 0, 0, 0, 0, 0, 0, 0, 0, 0, 0, 0, 0, 0, 0]) = true := by decide +kernel
theorem qk_55 : qmok (yX7_isLetter, cX7_isLetter, 3, some .boolean, 8, qc55) := qmE_ok qw_55 rfl qv_55
set_option maxRecDepth 100000 in
theorem qw_56 : znt lw_tbl 401 = some (.code yX7_isDigit cX7_isDigit 2 (some .boolean)) := by rfl
set_option maxRecDepth 100000 in
theorem qv_56 : (qmG (fun _ => true) (zinA 51) (zinA 400) (zinA 2) (yX7_isDigit, cX7_isDigit, 2, some .boolean, 8, qc56) && qfD yX7_isDigit.cls 2 cX7_isDigit (qall qc56) [0, 116, 0, 0, 0, 0, 0, 116, 0, 0, 0, 0, 0, 0, 0, 0]) = true := by decide +kernel
theorem qk_56 : qmok (yX7_isDigit, cX7_isDigit, 2, some .boolean, 8, qc56) := qmE_ok qw_56 rfl qv_56
set_option maxRecDepth 100000 in
theorem qw_57 : znt lw_tbl 405 = some (.code yX7_canStand cX7_canStand 5 (some .boolean)) := by rfl
set_option maxRecDepth 100000 in
theorem qv_57 : (qmG (fun _ => true) (zinA 51) (zinA 404) (zinA 3) (yX7_canStand, cX7_canStand, 5, some .boolean, 8, qc57) && qfD yX7_canStand.cls 5 cX7_canStand (qall qc57) [0, 117, 99, 0, 0, 0, 0, 0, 0, 0, 0, 0, 0, 117, 89, 0, 0, 0, 0, 0, 0, 0, 117, 89, 0, 0, 0, 0, 0, 0, 0, 406, 0, 0, 0, 117, 91, 0, 0, 0, 0, 406, 0, 0, 0, 117, 93, 0, 0, 0, 0, 406, 0, 0, 0, 117, 95, 0, 0, 0, 0, 406, 0, 0, 0, 117, 97, 0, 0, 0, 0, 406, 0, 0, 0, 415, 0, 0, 424, 0]) = true := by decide +kernel
theorem qk_57 : qmok (yX7_canStand, cX7_canStand, 5, some .boolean, 8, qc57) := qmE_ok qw_57 rfl qv_57
set_option maxRecDepth 100000 in
theorem qw_58 : znt lw_tbl 409 = some (.code yX7_putNumber cX7_putNumber 7 (some .boolean)) := by rfl
set_option maxRecDepth 100000 in
theorem qv_58 : (qmG (fun _ => true) (zinA 51) (zinA 408) (zinA 4) (yX7_putNumber, cX7_putNumber, 7, some .boolean, 8, qc58) && qfD yX7_putNumber.cls 7 cX7_putNumber (qall qc58) [0, 0, 0, 410, 0, 0, 0, 0, 0, 0, 414, 0, 0, 117, 99, 0, 0, 0, 0, 0, 0, 0, 117, 99, 0, 0, 0, 0]) = true := by decide +kernel
theorem qk_58 : qmok (yX7_putNumber, cX7_putNumber, 7, some .boolean, 8, qc58) := qmE_ok qw_58 rfl qv_58
set_option maxRecDepth 100000 in
theorem qw_59 : znt lw_tbl 413 = some (.code yX7_numberAt cX7_numberAt 6 (some .int)) := by rfl
set_option maxRecDepth 100000 in
theorem qv_59 : (qmG (fun _ => true) (zinA 51) (zinA 412) (zinA 5) (yX7_numberAt, cX7_numberAt, 6, some .int, 8, qc59) && qfD yX7_numberAt.cls 6 cX7_numberAt (qall qc59) [0, 116, 0, 0, 0, 0, 0, 0, 0, 0, 0, 0, 0, 0, 0, 0, 0, 398, 0, 0, 0, 0, 0, 0, 0, 0, 0, 0, 0, 0, 0, 0, 0, 0, 0, 0, 0, 0, 0, 116, 0, 0, 0, 0, 0, 0, 0, 0, 0, 0]) = true := by decide +kernel
theorem qk_59 : qmok (yX7_numberAt, cX7_numberAt, 6, some .int, 8, qc59) := qmE_ok qw_59 rfl qv_59
set_option maxRecDepth 100000 in
theorem qw_60 : znt lw_tbl 417 = some (.code yX7_fixedToken cX7_fixedToken 1 (some (.object "java/lang/String"))) := by rfl
set_option maxRecDepth 100000 in
theorem qv_60 : (qmG (fun _ => true) (zinA 51) (zinA 416) (zinA 0) (yX7_fixedToken, cX7_fixedToken, 1, some (.object "java/lang/String"), 0, qc60) && qfD yX7_fixedToken.cls 1 cX7_fixedToken (qall qc60) [0, 0, 0, 0, 0, 0, 0, 0, 0, 0, 0, 0, 0, 0]) = true := by decide +kernel
theorem qk_60 : qmok (yX7_fixedToken, cX7_fixedToken, 1, some (.object "java/lang/String"), 0, qc60) := qmE_ok qw_60 rfl qv_60
set_option maxRecDepth 100000 in
theorem qw_61 : znt lw_tbl 427 = some (.code yX7_isToken cX7_isToken 5 (some .boolean)) := by rfl
set_option maxRecDepth 100000 in
theorem qv_61 : (qmG (fun _ => true) (zinA 51) (zinA 426) (zinA 6) (yX7_isToken, cX7_isToken, 5, some .boolean, 8, qc61) && qfD yX7_isToken.cls 5 cX7_isToken (qall qc61) [0, 428, 0, 0, 0, 0, 0, 0, 0, 0, 0, 0, 0, 0, 116, 0, 0, 0, 0, 0, 0, 438, 0, 0, 0, 0, 0, 0, 0]) = true := by decide +kernel
theorem qk_61 : qmok (yX7_isToken, cX7_isToken, 5, some .boolean, 8, qc61) := qmE_ok qw_61 rfl qv_61
set_option maxRecDepth 100000 in
theorem qw_62 : znt lw_tbl 547 = some (.code yX0_look cX0_look 5 none) := by rfl
set_option maxRecDepth 100000 in
theorem qv_62 : (qmG (fun _ => true) (zinA 53) (zinA 545) (zinA 546) (yX0_look, cX0_look, 5, none, 1, qc62) && qfD yX0_look.cls 5 cX0_look (qall qc62) []) = true := by decide +kernel
theorem qk_62 : qmok (yX0_look, cX0_look, 5, none, 1, qc62) := qmE_ok qw_62 rfl qv_62
set_option maxRecDepth 100000 in
theorem qw_63 : znt lw_tbl 492 = some (.code yX8_forget cX8_forget 1 none) := by rfl
set_option maxRecDepth 100000 in
theorem qv_63 : (qmG (fun _ => true) (zinA 54) (zinA 490) (zinA 491) (yX8_forget, cX8_forget, 1, none, 9, qc63) && qfD yX8_forget.cls 1 cX8_forget (qall qc63) [0, 0, 148, 0]) = true := by decide +kernel
theorem qk_63 : qmok (yX8_forget, cX8_forget, 1, none, 9, qc63) := qmE_ok qw_63 rfl qv_63
set_option maxRecDepth 100000 in
theorem qw_64 : znt lw_tbl 542 = some (.code yX8_use cX8_use 4 none) := by rfl
set_option maxRecDepth 100000 in
theorem qv_64 : (qmG (fun _ => true) (zinA 54) (zinA 540) (zinA 541) (yX8_use, cX8_use, 4, none, 9, qc64) && qfD yX8_use.cls 4 cX8_use (qall qc64) [0, 148, 0, 0, 0, 0, 0, 148, 0, 0, 149, 0, 0, 0, 0, 0, 0, 144, 0, 0, 0, 0, 543, 0, 0, 0, 0]) = true := by decide +kernel
theorem qk_64 : qmok (yX8_use, cX8_use, 4, none, 9, qc64) := qmE_ok qw_64 rfl qv_64
set_option maxRecDepth 100000 in
theorem qw_65 : znt lw_tbl 552 = some (.code yX8_dueFor cX8_dueFor 2 (some .int)) := by rfl
set_option maxRecDepth 100000 in
theorem qv_65 : (qmG (fun _ => true) (zinA 54) (zinA 550) (zinA 551) (yX8_dueFor, cX8_dueFor, 2, some .int, 9, qc65) && qfD yX8_dueFor.cls 2 cX8_dueFor (qall qc65) [0, 0, 0, 553, 0, 0, 0, 0, 144, 0, 0, 0]) = true := by decide +kernel
theorem qk_65 : qmok (yX8_dueFor, cX8_dueFor, 2, some .int, 9, qc65) := qmE_ok qw_65 rfl qv_65
set_option maxRecDepth 100000 in
theorem qw_66 : znt lw_tbl 623 = some (.code yX8_makeDueRows cX8_makeDueRows 2 none) := by rfl
set_option maxRecDepth 100000 in
theorem qv_66 : (qmG (fun _ => true) (zinA 54) (zinA 621) (zinA 622) (yX8_makeDueRows, cX8_makeDueRows, 2, none, 9, qc66) && qfD yX8_makeDueRows.cls 2 cX8_makeDueRows (qall qc66) [0, 149, 0, 0, 0, 149, 0, 0, 0, 0, 149, 624, 0, 0, 149, 0, 0, 149, 0, 0]) = true := by decide +kernel
theorem qk_66 : qmok (yX8_makeDueRows, cX8_makeDueRows, 2, none, 9, qc66) := qmE_ok qw_66 rfl qv_66
set_option maxRecDepth 100000 in
theorem qw_67 : znt lw_tbl 588 = some (.code yX8_makeWayRows cX8_makeWayRows 2 none) := by rfl
set_option maxRecDepth 100000 in
theorem qv_67 : (qmG (fun _ => true) (zinA 54) (zinA 586) (zinA 587) (yX8_makeWayRows, cX8_makeWayRows, 2, none, 9, qc67) && qfD yX8_makeWayRows.cls 2 cX8_makeWayRows (qall qc67) [0, 150, 0, 0, 0, 150, 0, 0, 0, 0, 150, 589, 0, 0, 150, 0, 0, 150, 0, 0]) = true := by decide +kernel
theorem qk_67 : qmok (yX8_makeWayRows, cX8_makeWayRows, 2, none, 9, qc67) := qmE_ok qw_67 rfl qv_67
set_option maxRecDepth 100000 in
theorem qw_68 : znt lw_tbl 647 = some (.code yX8_leastFor cX8_leastFor 3 (some .int)) := by rfl
set_option maxRecDepth 100000 in
theorem qv_68 : (qmG (fun _ => true) (zinA 54) (zinA 645) (zinA 646) (yX8_leastFor, cX8_leastFor, 3, some .int, 9, qc68) && qfD yX8_leastFor.cls 3 cX8_leastFor (qall qc68) [0, 0, 0, 149, 603, 0, 0, 145, 0, 0, 0, 0, 0, 0, 0]) = true := by decide +kernel
theorem qk_68 : qmok (yX8_leastFor, cX8_leastFor, 3, some .int, 9, qc68) := qmE_ok qw_68 rfl qv_68
set_option maxRecDepth 100000 in
theorem qw_69 : znt lw_tbl 639 = some (.code yX8_mostFor cX8_mostFor 3 (some .int)) := by rfl
set_option maxRecDepth 100000 in
theorem qv_69 : (qmG (fun _ => true) (zinA 54) (zinA 637) (zinA 638) (yX8_mostFor, cX8_mostFor, 3, some .int, 9, qc69) && qfD yX8_mostFor.cls 3 cX8_mostFor (qall qc69) [0, 0, 0, 149, 603, 0, 0, 146, 0, 0, 0, 0, 0, 0, 0]) = true := by decide +kernel
theorem qk_69 : qmok (yX8_mostFor, cX8_mostFor, 3, some .int, 9, qc69) := qmE_ok qw_69 rfl qv_69
set_option maxRecDepth 100000 in
theorem qw_70 : znt lw_tbl 602 = some (.code yX8_waysFor cX8_waysFor 3 (some .int)) := by rfl
set_option maxRecDepth 100000 in
theorem qv_70 : (qmG (fun _ => true) (zinA 54) (zinA 600) (zinA 601) (yX8_waysFor, cX8_waysFor, 3, some .int, 9, qc70) && qfD yX8_waysFor.cls 3 cX8_waysFor (qall qc70) [0, 0, 0, 150, 603, 0, 0, 147, 0, 0, 0, 0, 0, 0, 0]) = true := by decide +kernel
theorem qk_70 : qmok (yX8_waysFor, cX8_waysFor, 3, some .int, 9, qc70) := qmE_ok qw_70 rfl qv_70
set_option maxRecDepth 100000 in
theorem qw_71 : znt lw_tbl 605 = some (.code yX8_isMade cX8_isMade 3 (some .boolean)) := by rfl
set_option maxRecDepth 100000 in
theorem qv_71 : (qmG (fun _ => true) (zinA 54) (zinA 604) (zinA 0) (yX8_isMade, cX8_isMade, 3, some .boolean, 0, qc71) && qfD yX8_isMade.cls 3 cX8_isMade (qall qc71) [0, 0, 0, 0, 0, 0, 0, 0, 0, 0, 0, 0, 0, 0, 0, 0]) = true := by decide +kernel
theorem qk_71 : qmok (yX8_isMade, cX8_isMade, 3, some .boolean, 0, qc71) := qmE_ok qw_71 rfl qv_71
set_option maxRecDepth 100000 in
theorem qw_72 : znt lw_tbl 592 = some (.code yX8_makeWayRow cX8_makeWayRow 7 none) := by rfl
set_option maxRecDepth 100000 in
theorem qv_72 : (qmG (fun _ => true) (zinA 54) (zinA 591) (zinA 9) (yX8_makeWayRow, cX8_makeWayRow, 7, none, 9, qc72) && qfD yX8_makeWayRow.cls 7 cX8_makeWayRow (qall qc72) [0, 0, 0, 0, 0, 0, 0, 0, 0, 0, 0, 593, 0, 0, 0, 594, 0, 0, 0, 0, 0, 0, 147, 0, 0, 0, 0, 0, 0, 0, 0, 0, 0, 0, 0, 0, 0, 147, 0, 0, 0, 0, 598, 0, 0, 0, 0, 0, 0]) = true := by decide +kernel
theorem qk_72 : qmok (yX8_makeWayRow, cX8_makeWayRow, 7, none, 9, qc72) := qmE_ok qw_72 rfl qv_72
set_option maxRecDepth 100000 in
theorem qw_73 : znt lw_tbl 627 = some (.code yX8_makeDueRow cX8_makeDueRow 8 none) := by rfl
set_option maxRecDepth 100000 in
theorem qv_73 : (qmG (fun _ => true) (zinA 54) (zinA 626) (zinA 11) (yX8_makeDueRow, cX8_makeDueRow, 8, none, 9, qc73) && qfD yX8_makeDueRow.cls 8 cX8_makeDueRow (qall qc73) [0, 0, 0, 0, 0, 0, 0, 0, 0, 593, 0, 0, 0, 594, 0, 0, 145, 0, 0, 0, 0, 0, 0, 0, 0, 0, 144, 0, 0, 0, 0, 0, 146, 0, 0, 0, 0, 0, 0, 0, 0, 0, 144, 0, 0, 0, 0, 0, 0, 0, 0, 0, 0, 0, 0, 0, 145, 0, 0, 0, 0, 0, 0, 0, 0, 0, 144, 0, 0, 0, 593, 0, 0, 0, 146, 0, 0, 0, 0, 0, 0, 0, 0, 0, 144, 0, 0, 0, 597, 0, 0, 0, 0, 145, 0, 0, 0, 0, 0, 0, 146, 0, 0, 0, 0, 0, 0, 0, 0]) = true := by decide +kernel
theorem qk_73 : qmok (yX8_makeDueRow, cX8_makeDueRow, 8, none, 9, qc73) := qmE_ok qw_73 rfl qv_73
set_option maxRecDepth 100000 in
theorem qw_74 : znt lw_tbl 596 = some (.code yX8_lowestLast cX8_lowestLast 2 (some .int)) := by rfl
set_option maxRecDepth 100000 in
theorem qv_74 : (qmG (fun _ => true) (zinA 54) (zinA 595) (zinA 0) (yX8_lowestLast, cX8_lowestLast, 2, some .int, 0, qc74) && qfD yX8_lowestLast.cls 2 cX8_lowestLast (qall qc74) [0, 0, 0, 0, 0, 0, 0, 0, 597, 0]) = true := by decide +kernel
theorem qk_74 : qmok (yX8_lowestLast, cX8_lowestLast, 2, some .int, 0, qc74) := qmE_ok qw_74 rfl qv_74
set_option maxRecDepth 100000 in
theorem qw_75 : znt lw_tbl 547 = some (.code yX0_look cX0_look 5 none) := by rfl
set_option maxRecDepth 100000 in
theorem qv_75 : (qmG (fun _ => true) (zinA 53) (zinA 545) (zinA 546) (yX0_look, cX0_look, 5, none, 1, qc75) && qfD yX0_look.cls 5 cX0_look (qall qc75) []) = true := by decide +kernel
theorem qk_75 : qmok (yX0_look, cX0_look, 5, none, 1, qc75) := qmE_ok qw_75 rfl qv_75
set_option maxRecDepth 100000 in
theorem qw_76 : znt lw_tbl 369 = some (.code yX9_type cX9_type 4 (some .int)) := by rfl
set_option maxRecDepth 100000 in
theorem qv_76 : (qmG (fun _ => true) (zinA 50) (zinA 367) (zinA 368) (yX9_type, cX9_type, 4, some .int, 10, qc76) && qfD yX9_type.cls 4 cX9_type (qall qc76) [0, 0, 0, 370, 0, 0, 0, 0, 344, 120, 0, 0, 0, 0, 0, 0, 0, 344, 0, 0, 373, 0, 344, 120, 0]) = true := by decide +kernel
theorem qk_76 : qmok (yX9_type, cX9_type, 4, some .int, 10, qc76) := qmE_ok qw_76 rfl qv_76
set_option maxRecDepth 100000 in
theorem qw_77 : znt lw_tbl 381 = some (.code yX9_clear cX9_clear 2 (some .int)) := by rfl
set_option maxRecDepth 100000 in
theorem qv_77 : (qmG (fun _ => true) (zinA 50) (zinA 379) (zinA 380) (yX9_clear, cX9_clear, 2, some .int, 10, qc77) && qfD yX9_clear.cls 2 cX9_clear (qall qc77) [0, 344, 120, 0, 0, 344, 0, 120, 0, 0]) = true := by decide +kernel
theorem qk_77 : qmok (yX9_clear, cX9_clear, 2, some .int, 10, qc77) := qmE_ok qw_77 rfl qv_77
set_option maxRecDepth 100000 in
theorem qw_78 : znt lw_tbl 385 = some (.code yX9_rules cX9_rules 2 (some .int)) := by rfl
set_option maxRecDepth 100000 in
theorem qv_78 : (qmG (fun _ => true) (zinA 50) (zinA 383) (zinA 384) (yX9_rules, cX9_rules, 2, some .int, 10, qc78) && qfD yX9_rules.cls 2 cX9_rules (qall qc78) [0, 344, 386, 0, 0, 0, 0, 0, 0, 0, 0, 345, 0, 344, 118, 476, 0, 346, 167, 489, 0, 344, 0, 120, 0, 345, 100, 0]) = true := by decide +kernel
theorem qk_78 : qmok (yX9_rules, cX9_rules, 2, some .int, 10, qc78) := qmE_ok qw_78 rfl qv_78
set_option maxRecDepth 100000 in
theorem qw_79 : znt lw_tbl 497 = some (.code yX9_due cX9_due 3 (some .int)) := by rfl
set_option maxRecDepth 100000 in
theorem qv_79 : (qmG (fun _ => true) (zinA 50) (zinA 495) (zinA 496) (yX9_due, cX9_due, 3, some .int, 10, qc79) && qfD yX9_due.cls 3 cX9_due (qall qc79) [0, 0, 0, 370, 0, 0, 0, 0, 370, 0, 0, 0, 0, 345, 0, 345, 0, 498, 0, 502, 0]) = true := by decide +kernel
theorem qk_79 : qmok (yX9_due, cX9_due, 3, some .int, 10, qc79) := qmE_ok qw_79 rfl qv_79
set_option maxRecDepth 100000 in
theorem qw_80 : znt lw_tbl 512 = some (.code yX9_pay cX9_pay 7 (some .int)) := by rfl
set_option maxRecDepth 100000 in
theorem qv_80 : (qmG (fun _ => true) (zinA 50) (zinA 510) (zinA 511) (yX9_pay, cX9_pay, 7, some .int, 10, qc80) && qfD yX9_pay.cls 7 cX9_pay (qall qc80) [0, 513, 0, 0, 516, 0, 0, 0, 0, 370, 0, 0, 0, 0, 370, 0, 0, 0, 0, 0, 0, 347, 0, 0, 297, 0, 0, 347, 0, 0, 299, 0, 0, 0, 0, 0, 0, 0, 0, 0, 0, 0]) = true := by decide +kernel
theorem qk_80 : qmok (yX9_pay, cX9_pay, 7, some .int, 10, qc80) := qmE_ok qw_80 rfl qv_80
set_option maxRecDepth 100000 in
theorem qw_81 : znt lw_tbl 522 = some (.code yX9_firm cX9_firm 7 (some .int)) := by rfl
set_option maxRecDepth 100000 in
theorem qv_81 : (qmG (fun _ => true) (zinA 50) (zinA 520) (zinA 521) (yX9_firm, cX9_firm, 7, some .int, 10, qc81) && qfD yX9_firm.cls 7 cX9_firm (qall qc81) [0, 513, 0, 0, 516, 0, 0, 516, 0, 0, 0, 0, 0, 0, 0, 0, 0, 0, 0, 0, 0, 0, 0, 370, 0, 0, 0, 0, 347, 0, 0, 0, 0, 0, 0, 0, 0, 0, 0, 0, 523, 0, 0, 0, 0, 0, 0, 0, 0, 0, 0, 348, 275, 527, 0]) = true := by decide +kernel
theorem qk_81 : qmok (yX9_firm, cX9_firm, 7, some .int, 10, qc81) := qmE_ok qw_81 rfl qv_81
