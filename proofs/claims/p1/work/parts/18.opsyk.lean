set_option maxRecDepth 100000 in
theorem zpo11_4 : zck 200 (zbx (4) (4) 11) = true := by decide +kernel
set_option maxRecDepth 100000 in
theorem zpo11_5 : zck 200 (zbx (5) (5) 11) = true := by decide +kernel
set_option maxRecDepth 100000 in
theorem zpo6_2 : zck 200 (zbx (2) (2) 6) = true := by decide +kernel
