set_option maxRecDepth 100000 in
theorem zpo23_0 : zck 200 (zbx (0) (0) 23) = true := by decide +kernel
set_option maxRecDepth 100000 in
theorem zpo8_0 : zck 200 (zbx (0) (0) 8) = true := by decide +kernel
set_option maxRecDepth 100000 in
theorem zpo6_l : zck 200 (zbx (-2147483648) (-1) 6) = true := by decide +kernel
set_option maxRecDepth 100000 in
theorem zpo6_h : zck 200 (zbx (6) (2147483647) 6) = true := by decide +kernel
set_option maxRecDepth 100000 in
theorem zpo7_l : zck 200 (zbx (-2147483648) (-1) 7) = true := by decide +kernel
