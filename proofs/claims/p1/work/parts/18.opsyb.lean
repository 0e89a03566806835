set_option maxRecDepth 100000 in
theorem zpo23_1 : zck 200 (zbx (1) (1) 23) = true := by decide +kernel
set_option maxRecDepth 100000 in
theorem zpo8_1 : zck 200 (zbx (1) (1) 8) = true := by decide +kernel
set_option maxRecDepth 100000 in
theorem zpo7_h : zck 200 (zbx (6) (2147483647) 7) = true := by decide +kernel
set_option maxRecDepth 100000 in
theorem zpo8_l : zck 200 (zbx (-2147483648) (-1) 8) = true := by decide +kernel
set_option maxRecDepth 100000 in
theorem zpo8_h : zck 200 (zbx (6) (2147483647) 8) = true := by decide +kernel
