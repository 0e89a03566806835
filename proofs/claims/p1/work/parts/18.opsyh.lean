set_option maxRecDepth 100000 in
theorem zpo23_7 : zck 200 (zbx (7) (7) 23) = true := by decide +kernel
set_option maxRecDepth 100000 in
theorem zpo13_2 : zck 200 (zbx (2) (2) 13) = true := by decide +kernel
set_option maxRecDepth 100000 in
theorem zpo9_2 : zck 200 (zbx (2) (2) 9) = true := by decide +kernel
