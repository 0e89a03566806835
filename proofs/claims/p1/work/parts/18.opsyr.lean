set_option maxRecDepth 100000 in
theorem zpo7_1 : zck 200 (zbx (1) (1) 7) = true := by decide +kernel
set_option maxRecDepth 100000 in
theorem zpo7_2 : zck 200 (zbx (2) (2) 7) = true := by decide +kernel
set_option maxRecDepth 100000 in
theorem zpo7_3 : zck 200 (zbx (3) (3) 7) = true := by decide +kernel
set_option maxRecDepth 100000 in
theorem zpo7_4 : zck 200 (zbx (4) (4) 7) = true := by decide +kernel
set_option maxRecDepth 100000 in
theorem zpo7_5 : zck 200 (zbx (5) (5) 7) = true := by decide +kernel
