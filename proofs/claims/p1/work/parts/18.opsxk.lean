set_option maxRecDepth 100000 in
theorem zpo23_6 : zck 200 (zbx (6) (6) 23) = true := by decide +kernel
set_option maxRecDepth 100000 in
theorem zpo23_4 : zck 200 (zbx (4) (4) 23) = true := by decide +kernel
set_option maxRecDepth 100000 in
theorem zpo23_1 : zck 200 (zbx (1) (1) 23) = true := by decide +kernel
set_option maxRecDepth 100000 in
theorem zpo8_0 : zck 200 (zbx (0) (0) 8) = true := by decide +kernel
set_option maxRecDepth 100000 in
theorem zpo8_1 : zck 200 (zbx (1) (1) 8) = true := by decide +kernel
set_option maxRecDepth 100000 in
theorem zpo8_2 : zck 200 (zbx (2) (2) 8) = true := by decide +kernel
