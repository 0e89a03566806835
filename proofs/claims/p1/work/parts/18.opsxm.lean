set_option maxRecDepth 100000 in
theorem zpo4 : zck 200 (zbx (-2147483648) (2147483647) 4) = true := by decide +kernel
set_option maxRecDepth 100000 in
theorem zpo0 : zck 200 (zbx (-2147483648) (2147483647) 0) = true := by decide +kernel
set_option maxRecDepth 100000 in
theorem zpo12_1 : zck 200 (zbx (1) (1) 12) = true := by decide +kernel
set_option maxRecDepth 100000 in
theorem zpo12_2 : zck 200 (zbx (2) (2) 12) = true := by decide +kernel
set_option maxRecDepth 100000 in
theorem zpo12_3 : zck 200 (zbx (3) (3) 12) = true := by decide +kernel
set_option maxRecDepth 100000 in
theorem zpo12_4 : zck 200 (zbx (4) (4) 12) = true := by decide +kernel
set_option maxRecDepth 100000 in
theorem zpo12_5 : zck 200 (zbx (5) (5) 12) = true := by decide +kernel
set_option maxRecDepth 100000 in
theorem zpo26 : zck 200 (zbx (-2147483648) (2147483647) 26) = true := by decide +kernel
set_option maxRecDepth 100000 in
theorem zpo10_0 : zck 200 (zbx (0) (0) 10) = true := by decide +kernel
set_option maxRecDepth 100000 in
theorem zpo10_1 : zck 200 (zbx (1) (1) 10) = true := by decide +kernel
set_option maxRecDepth 100000 in
theorem zpo10_2 : zck 200 (zbx (2) (2) 10) = true := by decide +kernel
set_option maxRecDepth 100000 in
theorem zpo10_3 : zck 200 (zbx (3) (3) 10) = true := by decide +kernel
set_option maxRecDepth 100000 in
theorem zpo10_4 : zck 200 (zbx (4) (4) 10) = true := by decide +kernel
set_option maxRecDepth 100000 in
theorem zpo10_5 : zck 200 (zbx (5) (5) 10) = true := by decide +kernel
set_option maxRecDepth 100000 in
theorem zpo9_1 : zck 200 (zbx (1) (1) 9) = true := by decide +kernel
set_option maxRecDepth 100000 in
theorem zpo9_2 : zck 200 (zbx (2) (2) 9) = true := by decide +kernel
set_option maxRecDepth 100000 in
theorem zpo9_3 : zck 200 (zbx (3) (3) 9) = true := by decide +kernel
set_option maxRecDepth 100000 in
theorem zpo9_4 : zck 200 (zbx (4) (4) 9) = true := by decide +kernel
