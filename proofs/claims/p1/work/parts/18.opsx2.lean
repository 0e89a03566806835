set_option maxRecDepth 100000 in
theorem zpo5_2 : zck 200 (zbx (2) (2) 5) = true := by decide +kernel
set_option maxRecDepth 100000 in
theorem zpo23_4 : zck 200 (zbx (4) (4) 23) = true := by decide +kernel
set_option maxRecDepth 100000 in
theorem zpo11_4 : zck 200 (zbx (4) (4) 11) = true := by decide +kernel
set_option maxRecDepth 100000 in
theorem zpo13_2 : zck 200 (zbx (2) (2) 13) = true := by decide +kernel
set_option maxRecDepth 100000 in
theorem zpo12_1 : zck 200 (zbx (1) (1) 12) = true := by decide +kernel
set_option maxRecDepth 100000 in
theorem zpo1 : zck 200 (zbx (-2147483648) (2147483647) 1) = true := by decide +kernel
set_option maxRecDepth 100000 in
theorem zpo20 : zck 200 (zbx (-2147483648) (2147483647) 20) = true := by decide +kernel
set_option maxRecDepth 100000 in
theorem zpo30 : zck 200 (zbx (-2147483648) (2147483647) 30) = true := by decide +kernel
set_option maxRecDepth 100000 in
theorem zpo7_1 : zck 200 (zbx (1) (1) 7) = true := by decide +kernel
set_option maxRecDepth 100000 in
theorem zpo10_3 : zck 200 (zbx (3) (3) 10) = true := by decide +kernel
set_option maxRecDepth 100000 in
theorem zpo5_l : zck 200 (zbx (-2147483648) (-1) 5) = true := by decide +kernel
set_option maxRecDepth 100000 in
theorem zpo6_h : zck 200 (zbx (6) (2147483647) 6) = true := by decide +kernel
set_option maxRecDepth 100000 in
theorem zpo8_h : zck 200 (zbx (6) (2147483647) 8) = true := by decide +kernel
set_option maxRecDepth 100000 in
theorem zpo11_l : zck 200 (zbx (-2147483648) (-1) 11) = true := by decide +kernel
set_option maxRecDepth 100000 in
theorem zpo18_h : zck 200 (zbx (6) (2147483647) 18) = true := by decide +kernel
