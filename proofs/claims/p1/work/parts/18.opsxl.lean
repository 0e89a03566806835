set_option maxRecDepth 100000 in
theorem zpo11_3 : zck 200 (zbx (3) (3) 11) = true := by decide +kernel
set_option maxRecDepth 100000 in
theorem zpo11_4 : zck 200 (zbx (4) (4) 11) = true := by decide +kernel
set_option maxRecDepth 100000 in
theorem zpo11_5 : zck 200 (zbx (5) (5) 11) = true := by decide +kernel
set_option maxRecDepth 100000 in
theorem zpo8_0 : zck 200 (zbx (0) (0) 8) = true := by decide +kernel
set_option maxRecDepth 100000 in
theorem zpo12_0 : zck 200 (zbx (0) (0) 12) = true := by decide +kernel
set_option maxRecDepth 100000 in
theorem zpo6_1 : zck 200 (zbx (1) (1) 6) = true := by decide +kernel
