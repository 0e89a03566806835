set_option maxRecDepth 100000 in
theorem zpo11_0 : zck 200 (zbx (0) (0) 11) = true := by decide +kernel
set_option maxRecDepth 100000 in
theorem zpo11_1 : zck 200 (zbx (1) (1) 11) = true := by decide +kernel
set_option maxRecDepth 100000 in
theorem zpo11_2 : zck 200 (zbx (2) (2) 11) = true := by decide +kernel
set_option maxRecDepth 100000 in
theorem zpo11_3 : zck 200 (zbx (3) (3) 11) = true := by decide +kernel
set_option maxRecDepth 100000 in
theorem zpo11_4 : zck 200 (zbx (4) (4) 11) = true := by decide +kernel
set_option maxRecDepth 100000 in
theorem zpo12_0 : zck 200 (zbx (0) (0) 12) = true := by decide +kernel
