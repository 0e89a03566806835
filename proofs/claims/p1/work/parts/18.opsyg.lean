set_option maxRecDepth 100000 in
theorem zpo23_6 : zck 200 (zbx (6) (6) 23) = true := by decide +kernel
set_option maxRecDepth 100000 in
theorem zpo13_1 : zck 200 (zbx (1) (1) 13) = true := by decide +kernel
set_option maxRecDepth 100000 in
theorem zpo9_1 : zck 200 (zbx (1) (1) 9) = true := by decide +kernel
