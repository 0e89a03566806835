set_option maxRecDepth 100000 in
theorem zpo13_4 : zck 200 (zbx (4) (4) 13) = true := by decide +kernel
set_option maxRecDepth 100000 in
theorem zpo13_5 : zck 200 (zbx (5) (5) 13) = true := by decide +kernel
set_option maxRecDepth 100000 in
theorem zpo12_1 : zck 200 (zbx (1) (1) 12) = true := by decide +kernel
set_option maxRecDepth 100000 in
theorem zpo12_2 : zck 200 (zbx (2) (2) 12) = true := by decide +kernel
set_option maxRecDepth 100000 in
theorem zpo23_l : zck 200 (zbx (-2147483648) (-1) 23) = true := by decide +kernel
set_option maxRecDepth 100000 in
theorem zpo23_h : zck 200 (zbx (8) (2147483647) 23) = true := by decide +kernel
