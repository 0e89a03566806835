set_option maxRecDepth 100000 in
theorem zpo23_4 : zck 200 (zbx (4) (4) 23) = true := by decide +kernel
set_option maxRecDepth 100000 in
theorem zpo8_4 : zck 200 (zbx (4) (4) 8) = true := by decide +kernel
set_option maxRecDepth 100000 in
theorem zpo12_l : zck 200 (zbx (-2147483648) (-1) 12) = true := by decide +kernel
set_option maxRecDepth 100000 in
theorem zpo12_h : zck 200 (zbx (6) (2147483647) 12) = true := by decide +kernel
set_option maxRecDepth 100000 in
theorem zpo13_l : zck 200 (zbx (-2147483648) (-1) 13) = true := by decide +kernel
