set_option maxRecDepth 100000 in
theorem zpo18_5 : zck 200 (zbx (5) (5) 18) = true := by decide +kernel
set_option maxRecDepth 100000 in
theorem zpo23_0 : zck 200 (zbx (0) (0) 23) = true := by decide +kernel
set_option maxRecDepth 100000 in
theorem zpo23_1 : zck 200 (zbx (1) (1) 23) = true := by decide +kernel
set_option maxRecDepth 100000 in
theorem zpo23_2 : zck 200 (zbx (2) (2) 23) = true := by decide +kernel
set_option maxRecDepth 100000 in
theorem zpo6_0 : zck 200 (zbx (0) (0) 6) = true := by decide +kernel
set_option maxRecDepth 100000 in
theorem zpo6_l : zck 200 (zbx (-2147483648) (-1) 6) = true := by decide +kernel
