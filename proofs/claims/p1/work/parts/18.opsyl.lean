set_option maxRecDepth 100000 in
theorem zpo18_5 : zck 200 (zbx (5) (5) 18) = true := by decide +kernel
set_option maxRecDepth 100000 in
theorem zpo13_3 : zck 200 (zbx (3) (3) 13) = true := by decide +kernel
set_option maxRecDepth 100000 in
theorem zpo12_0 : zck 200 (zbx (0) (0) 12) = true := by decide +kernel
set_option maxRecDepth 100000 in
theorem zpo6_3 : zck 200 (zbx (3) (3) 6) = true := by decide +kernel
