set_option maxRecDepth 100000 in
theorem zpo14 : zck 200 (zbx (-2147483648) (2147483647) 14) = true := by decide +kernel
set_option maxRecDepth 100000 in
theorem zpo18_1 : zck 200 (zbx (1) (1) 18) = true := by decide +kernel
set_option maxRecDepth 100000 in
theorem zpo18_3 : zck 200 (zbx (3) (3) 18) = true := by decide +kernel
set_option maxRecDepth 100000 in
theorem zpo18_5 : zck 200 (zbx (5) (5) 18) = true := by decide +kernel
set_option maxRecDepth 100000 in
theorem zpo23_1 : zck 200 (zbx (1) (1) 23) = true := by decide +kernel
set_option maxRecDepth 100000 in
theorem zpo11_1 : zck 200 (zbx (1) (1) 11) = true := by decide +kernel
set_option maxRecDepth 100000 in
theorem zpo8_3 : zck 200 (zbx (3) (3) 8) = true := by decide +kernel
set_option maxRecDepth 100000 in
theorem zpo12_3 : zck 200 (zbx (3) (3) 12) = true := by decide +kernel
set_option maxRecDepth 100000 in
theorem zpo3 : zck 200 (zbx (-2147483648) (2147483647) 3) = true := by decide +kernel
set_option maxRecDepth 100000 in
theorem zpo22 : zck 200 (zbx (-2147483648) (2147483647) 22) = true := by decide +kernel
set_option maxRecDepth 100000 in
theorem zpo9_0 : zck 200 (zbx (0) (0) 9) = true := by decide +kernel
set_option maxRecDepth 100000 in
theorem zpo9_4 : zck 200 (zbx (4) (4) 9) = true := by decide +kernel
set_option maxRecDepth 100000 in
theorem zpo10_0 : zck 200 (zbx (0) (0) 10) = true := by decide +kernel
set_option maxRecDepth 100000 in
theorem zpo6_2 : zck 200 (zbx (2) (2) 6) = true := by decide +kernel
set_option maxRecDepth 100000 in
theorem zpo10_l : zck 200 (zbx (-2147483648) (-1) 10) = true := by decide +kernel
set_option maxRecDepth 100000 in
theorem zpo12_h : zck 200 (zbx (6) (2147483647) 12) = true := by decide +kernel
