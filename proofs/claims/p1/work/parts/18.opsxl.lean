set_option maxRecDepth 100000 in
theorem zpo8_3 : zck 200 (zbx (3) (3) 8) = true := by decide +kernel
set_option maxRecDepth 100000 in
theorem zpo8_4 : zck 200 (zbx (4) (4) 8) = true := by decide +kernel
set_option maxRecDepth 100000 in
theorem zpo8_5 : zck 200 (zbx (5) (5) 8) = true := by decide +kernel
set_option maxRecDepth 100000 in
theorem zpo23_0 : zck 200 (zbx (0) (0) 23) = true := by decide +kernel
set_option maxRecDepth 100000 in
theorem zpo13_3 : zck 200 (zbx (3) (3) 13) = true := by decide +kernel
set_option maxRecDepth 100000 in
theorem zpo13_4 : zck 200 (zbx (4) (4) 13) = true := by decide +kernel
set_option maxRecDepth 100000 in
theorem zpo13_5 : zck 200 (zbx (5) (5) 13) = true := by decide +kernel
