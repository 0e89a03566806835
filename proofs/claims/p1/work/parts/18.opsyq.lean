set_option maxRecDepth 100000 in
theorem zpo9_3 : zck 200 (zbx (3) (3) 9) = true := by decide +kernel
set_option maxRecDepth 100000 in
theorem zpo9_4 : zck 200 (zbx (4) (4) 9) = true := by decide +kernel
set_option maxRecDepth 100000 in
theorem zpo9_5 : zck 200 (zbx (5) (5) 9) = true := by decide +kernel
set_option maxRecDepth 100000 in
theorem zpo10_0 : zck 200 (zbx (0) (0) 10) = true := by decide +kernel
set_option maxRecDepth 100000 in
theorem zpo10_1 : zck 200 (zbx (1) (1) 10) = true := by decide +kernel
set_option maxRecDepth 100000 in
theorem zpo10_2 : zck 200 (zbx (2) (2) 10) = true := by decide +kernel
set_option maxRecDepth 100000 in
theorem zpo10_3 : zck 200 (zbx (3) (3) 10) = true := by decide +kernel
set_option maxRecDepth 100000 in
theorem zpo10_4 : zck 200 (zbx (4) (4) 10) = true := by decide +kernel
set_option maxRecDepth 100000 in
theorem zpo10_5 : zck 200 (zbx (5) (5) 10) = true := by decide +kernel
set_option maxRecDepth 100000 in
theorem zpo7_0 : zck 200 (zbx (0) (0) 7) = true := by decide +kernel
