set_option maxRecDepth 100000 in
theorem zpo18_2 : zck 200 (zbx (2) (2) 18) = true := by decide +kernel
set_option maxRecDepth 100000 in
theorem zpo18_3 : zck 200 (zbx (3) (3) 18) = true := by decide +kernel
set_option maxRecDepth 100000 in
theorem zpo18_4 : zck 200 (zbx (4) (4) 18) = true := by decide +kernel
set_option maxRecDepth 100000 in
theorem zpo18_5 : zck 200 (zbx (5) (5) 18) = true := by decide +kernel
set_option maxRecDepth 100000 in
theorem zpo13_1 : zck 200 (zbx (1) (1) 13) = true := by decide +kernel
set_option maxRecDepth 100000 in
theorem zpo9_0 : zck 200 (zbx (0) (0) 9) = true := by decide +kernel
