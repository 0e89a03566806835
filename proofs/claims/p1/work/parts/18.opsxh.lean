set_option maxRecDepth 100000 in
theorem zpo18_1 : zck 200 (zbx (1) (1) 18) = true := by decide +kernel
set_option maxRecDepth 100000 in
theorem zpo18_2 : zck 200 (zbx (2) (2) 18) = true := by decide +kernel
set_option maxRecDepth 100000 in
theorem zpo18_3 : zck 200 (zbx (3) (3) 18) = true := by decide +kernel
set_option maxRecDepth 100000 in
theorem zpo18_4 : zck 200 (zbx (4) (4) 18) = true := by decide +kernel
