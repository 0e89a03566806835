set_option maxRecDepth 100000 in
theorem zpo10_5 : zck 200 (zbx (5) (5) 10) = true := by decide +kernel
set_option maxRecDepth 100000 in
theorem zpo6_3 : zck 200 (zbx (3) (3) 6) = true := by decide +kernel
set_option maxRecDepth 100000 in
theorem zpo6_4 : zck 200 (zbx (4) (4) 6) = true := by decide +kernel
set_option maxRecDepth 100000 in
theorem zpo6_5 : zck 200 (zbx (5) (5) 6) = true := by decide +kernel
set_option maxRecDepth 100000 in
theorem zpo18_h : zck 200 (zbx (6) (2147483647) 18) = true := by decide +kernel
set_option maxRecDepth 100000 in
theorem zpo23_l : zck 200 (zbx (-2147483648) (-1) 23) = true := by decide +kernel
set_option maxRecDepth 100000 in
theorem zpo23_h : zck 200 (zbx (8) (2147483647) 23) = true := by decide +kernel
