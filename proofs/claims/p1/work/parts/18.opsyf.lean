set_option maxRecDepth 100000 in
theorem zpo23_5 : zck 200 (zbx (5) (5) 23) = true := by decide +kernel
set_option maxRecDepth 100000 in
theorem zpo8_5 : zck 200 (zbx (5) (5) 8) = true := by decide +kernel
set_option maxRecDepth 100000 in
theorem zpo13_h : zck 200 (zbx (6) (2147483647) 13) = true := by decide +kernel
set_option maxRecDepth 100000 in
theorem zpo18_l : zck 200 (zbx (-2147483648) (-1) 18) = true := by decide +kernel
set_option maxRecDepth 100000 in
theorem zpo18_h : zck 200 (zbx (6) (2147483647) 18) = true := by decide +kernel
