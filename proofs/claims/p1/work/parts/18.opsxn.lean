set_option maxRecDepth 100000 in
theorem zpo9_5 : zck 200 (zbx (5) (5) 9) = true := by decide +kernel
set_option maxRecDepth 100000 in
theorem zpo6_0 : zck 200 (zbx (0) (0) 6) = true := by decide +kernel
set_option maxRecDepth 100000 in
theorem zpo6_1 : zck 200 (zbx (1) (1) 6) = true := by decide +kernel
set_option maxRecDepth 100000 in
theorem zpo6_2 : zck 200 (zbx (2) (2) 6) = true := by decide +kernel
set_option maxRecDepth 100000 in
theorem zpo6_3 : zck 200 (zbx (3) (3) 6) = true := by decide +kernel
set_option maxRecDepth 100000 in
theorem zpo6_4 : zck 200 (zbx (4) (4) 6) = true := by decide +kernel
set_option maxRecDepth 100000 in
theorem zpo6_5 : zck 200 (zbx (5) (5) 6) = true := by decide +kernel
set_option maxRecDepth 100000 in
theorem zpo7_0 : zck 200 (zbx (0) (0) 7) = true := by decide +kernel
set_option maxRecDepth 100000 in
theorem zpo7_1 : zck 200 (zbx (1) (1) 7) = true := by decide +kernel
set_option maxRecDepth 100000 in
theorem zpo7_2 : zck 200 (zbx (2) (2) 7) = true := by decide +kernel
set_option maxRecDepth 100000 in
theorem zpo7_3 : zck 200 (zbx (3) (3) 7) = true := by decide +kernel
set_option maxRecDepth 100000 in
theorem zpo7_4 : zck 200 (zbx (4) (4) 7) = true := by decide +kernel
set_option maxRecDepth 100000 in
theorem zpo7_5 : zck 200 (zbx (5) (5) 7) = true := by decide +kernel
