set_option maxRecDepth 100000 in
theorem zpo11_0 : zck 200 (zbx (0) (0) 11) = true := by decide +kernel
set_option maxRecDepth 100000 in
theorem zpo11_1 : zck 200 (zbx (1) (1) 11) = true := by decide +kernel
set_option maxRecDepth 100000 in
theorem zpo6_0 : zck 200 (zbx (0) (0) 6) = true := by decide +kernel
