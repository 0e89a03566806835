set_option maxRecDepth 100000 in
theorem zpo5_5 : zck 200 (zbx (5) (5) 5) = true := by decide +kernel
set_option maxRecDepth 100000 in
theorem zpo23_7 : zck 200 (zbx (7) (7) 23) = true := by decide +kernel
set_option maxRecDepth 100000 in
theorem zpo8_1 : zck 200 (zbx (1) (1) 8) = true := by decide +kernel
set_option maxRecDepth 100000 in
theorem zpo8_5 : zck 200 (zbx (5) (5) 8) = true := by decide +kernel
set_option maxRecDepth 100000 in
theorem zpo12_5 : zck 200 (zbx (5) (5) 12) = true := by decide +kernel
set_option maxRecDepth 100000 in
theorem zpo15 : zck 200 (zbx (-2147483648) (2147483647) 15) = true := by decide +kernel
set_option maxRecDepth 100000 in
theorem zpo26 : zck 200 (zbx (-2147483648) (2147483647) 26) = true := by decide +kernel
set_option maxRecDepth 100000 in
theorem zpo9_2 : zck 200 (zbx (2) (2) 9) = true := by decide +kernel
set_option maxRecDepth 100000 in
theorem zpo7_4 : zck 200 (zbx (4) (4) 7) = true := by decide +kernel
set_option maxRecDepth 100000 in
theorem zpo6_0 : zck 200 (zbx (0) (0) 6) = true := by decide +kernel
set_option maxRecDepth 100000 in
theorem zpo6_4 : zck 200 (zbx (4) (4) 6) = true := by decide +kernel
set_option maxRecDepth 100000 in
theorem zpo13_h : zck 200 (zbx (6) (2147483647) 13) = true := by decide +kernel
