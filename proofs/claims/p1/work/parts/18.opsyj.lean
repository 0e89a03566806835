set_option maxRecDepth 100000 in
theorem zpo11_2 : zck 200 (zbx (2) (2) 11) = true := by decide +kernel
set_option maxRecDepth 100000 in
theorem zpo11_3 : zck 200 (zbx (3) (3) 11) = true := by decide +kernel
set_option maxRecDepth 100000 in
theorem zpo6_1 : zck 200 (zbx (1) (1) 6) = true := by decide +kernel
