set_option maxRecDepth 100000 in
theorem zpo24 : zck 200 (zbx (-2147483648) (2147483647) 24) = true := by decide +kernel
set_option maxRecDepth 100000 in
theorem zpo18_0 : zck 200 (zbx (0) (0) 18) = true := by decide +kernel
set_option maxRecDepth 100000 in
theorem zpo18_2 : zck 200 (zbx (2) (2) 18) = true := by decide +kernel
set_option maxRecDepth 100000 in
theorem zpo18_4 : zck 200 (zbx (4) (4) 18) = true := by decide +kernel
set_option maxRecDepth 100000 in
theorem zpo23_0 : zck 200 (zbx (0) (0) 23) = true := by decide +kernel
set_option maxRecDepth 100000 in
theorem zpo11_0 : zck 200 (zbx (0) (0) 11) = true := by decide +kernel
set_option maxRecDepth 100000 in
theorem zpo8_2 : zck 200 (zbx (2) (2) 8) = true := by decide +kernel
set_option maxRecDepth 100000 in
theorem zpo13_4 : zck 200 (zbx (4) (4) 13) = true := by decide +kernel
set_option maxRecDepth 100000 in
theorem zpo16 : zck 200 (zbx (-2147483648) (2147483647) 16) = true := by decide +kernel
set_option maxRecDepth 100000 in
theorem zpo27 : zck 200 (zbx (-2147483648) (2147483647) 27) = true := by decide +kernel
set_option maxRecDepth 100000 in
theorem zpo9_3 : zck 200 (zbx (3) (3) 9) = true := by decide +kernel
set_option maxRecDepth 100000 in
theorem zpo7_5 : zck 200 (zbx (5) (5) 7) = true := by decide +kernel
set_option maxRecDepth 100000 in
theorem zpo6_1 : zck 200 (zbx (1) (1) 6) = true := by decide +kernel
set_option maxRecDepth 100000 in
theorem zpo8_l : zck 200 (zbx (-2147483648) (-1) 8) = true := by decide +kernel
set_option maxRecDepth 100000 in
theorem zpo10_h : zck 200 (zbx (6) (2147483647) 10) = true := by decide +kernel
set_option maxRecDepth 100000 in
theorem zpo18_l : zck 200 (zbx (-2147483648) (-1) 18) = true := by decide +kernel
