set_option maxRecDepth 100000 in
theorem zpo8_1 : zck 200 (zbx (1) (1) 8) = true := by decide +kernel
set_option maxRecDepth 100000 in
theorem zpo8_2 : zck 200 (zbx (2) (2) 8) = true := by decide +kernel
set_option maxRecDepth 100000 in
theorem zpo8_3 : zck 200 (zbx (3) (3) 8) = true := by decide +kernel
set_option maxRecDepth 100000 in
theorem zpo8_4 : zck 200 (zbx (4) (4) 8) = true := by decide +kernel
set_option maxRecDepth 100000 in
theorem zpo8_5 : zck 200 (zbx (5) (5) 8) = true := by decide +kernel
set_option maxRecDepth 100000 in
theorem zpo7_h : zck 200 (zbx (6) (2147483647) 7) = true := by decide +kernel
set_option maxRecDepth 100000 in
theorem zpo8_l : zck 200 (zbx (-2147483648) (-1) 8) = true := by decide +kernel
set_option maxRecDepth 100000 in
theorem zpo8_h : zck 200 (zbx (6) (2147483647) 8) = true := by decide +kernel
set_option maxRecDepth 100000 in
theorem zpo9_l : zck 200 (zbx (-2147483648) (-1) 9) = true := by decide +kernel
set_option maxRecDepth 100000 in
theorem zpo9_h : zck 200 (zbx (6) (2147483647) 9) = true := by decide +kernel
