set_option maxRecDepth 100000 in
theorem zpo11_5 : zck 200 (zbx (5) (5) 11) = true := by decide +kernel
set_option maxRecDepth 100000 in
theorem zpo23_7 : zck 200 (zbx (7) (7) 23) = true := by decide +kernel
set_option maxRecDepth 100000 in
theorem zpo23_3 : zck 200 (zbx (3) (3) 23) = true := by decide +kernel
set_option maxRecDepth 100000 in
theorem zpo23_5 : zck 200 (zbx (5) (5) 23) = true := by decide +kernel
set_option maxRecDepth 100000 in
theorem zpo23_2 : zck 200 (zbx (2) (2) 23) = true := by decide +kernel
set_option maxRecDepth 100000 in
theorem zpo13_2 : zck 200 (zbx (2) (2) 13) = true := by decide +kernel
