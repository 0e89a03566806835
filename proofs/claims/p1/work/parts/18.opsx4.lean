set_option maxRecDepth 100000 in
theorem zpo5_4 : zck 200 (zbx (4) (4) 5) = true := by decide +kernel
set_option maxRecDepth 100000 in
theorem zpo23_6 : zck 200 (zbx (6) (6) 23) = true := by decide +kernel
set_option maxRecDepth 100000 in
theorem zpo8_0 : zck 200 (zbx (0) (0) 8) = true := by decide +kernel
set_option maxRecDepth 100000 in
theorem zpo8_4 : zck 200 (zbx (4) (4) 8) = true := by decide +kernel
set_option maxRecDepth 100000 in
theorem zpo12_4 : zck 200 (zbx (4) (4) 12) = true := by decide +kernel
set_option maxRecDepth 100000 in
theorem zpo4 : zck 200 (zbx (-2147483648) (2147483647) 4) = true := by decide +kernel
set_option maxRecDepth 100000 in
theorem zpo25 : zck 200 (zbx (-2147483648) (2147483647) 25) = true := by decide +kernel
set_option maxRecDepth 100000 in
theorem zpo9_1 : zck 200 (zbx (1) (1) 9) = true := by decide +kernel
set_option maxRecDepth 100000 in
theorem zpo7_3 : zck 200 (zbx (3) (3) 7) = true := by decide +kernel
set_option maxRecDepth 100000 in
theorem zpo10_5 : zck 200 (zbx (5) (5) 10) = true := by decide +kernel
set_option maxRecDepth 100000 in
theorem zpo6_l : zck 200 (zbx (-2147483648) (-1) 6) = true := by decide +kernel
set_option maxRecDepth 100000 in
theorem zpo7_h : zck 200 (zbx (6) (2147483647) 7) = true := by decide +kernel
set_option maxRecDepth 100000 in
theorem zpo9_h : zck 200 (zbx (6) (2147483647) 9) = true := by decide +kernel
set_option maxRecDepth 100000 in
theorem zpo12_l : zck 200 (zbx (-2147483648) (-1) 12) = true := by decide +kernel
set_option maxRecDepth 100000 in
theorem zpo23_h : zck 200 (zbx (8) (2147483647) 23) = true := by decide +kernel
