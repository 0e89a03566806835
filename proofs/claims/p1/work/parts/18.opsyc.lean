set_option maxRecDepth 100000 in
theorem zpo23_2 : zck 200 (zbx (2) (2) 23) = true := by decide +kernel
set_option maxRecDepth 100000 in
theorem zpo8_2 : zck 200 (zbx (2) (2) 8) = true := by decide +kernel
set_option maxRecDepth 100000 in
theorem zpo9_l : zck 200 (zbx (-2147483648) (-1) 9) = true := by decide +kernel
set_option maxRecDepth 100000 in
theorem zpo9_h : zck 200 (zbx (6) (2147483647) 9) = true := by decide +kernel
set_option maxRecDepth 100000 in
theorem zpo10_l : zck 200 (zbx (-2147483648) (-1) 10) = true := by decide +kernel
