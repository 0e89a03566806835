set_option maxRecDepth 100000 in
theorem zpo23_3 : zck 200 (zbx (3) (3) 23) = true := by decide +kernel
set_option maxRecDepth 100000 in
theorem zpo23_4 : zck 200 (zbx (4) (4) 23) = true := by decide +kernel
set_option maxRecDepth 100000 in
theorem zpo23_5 : zck 200 (zbx (5) (5) 23) = true := by decide +kernel
set_option maxRecDepth 100000 in
theorem zpo23_6 : zck 200 (zbx (6) (6) 23) = true := by decide +kernel
set_option maxRecDepth 100000 in
theorem zpo9_1 : zck 200 (zbx (1) (1) 9) = true := by decide +kernel
