set_option maxRecDepth 100000 in
theorem zpo23_7 : zck 200 (zbx (7) (7) 23) = true := by decide +kernel
set_option maxRecDepth 100000 in
theorem zpo11_0 : zck 200 (zbx (0) (0) 11) = true := by decide +kernel
set_option maxRecDepth 100000 in
theorem zpo11_1 : zck 200 (zbx (1) (1) 11) = true := by decide +kernel
set_option maxRecDepth 100000 in
theorem zpo11_2 : zck 200 (zbx (2) (2) 11) = true := by decide +kernel
set_option maxRecDepth 100000 in
theorem zpo0 : zck 200 (zbx (-2147483648) (2147483647) 0) = true := by decide +kernel
set_option maxRecDepth 100000 in
theorem zpo6_h : zck 200 (zbx (6) (2147483647) 6) = true := by decide +kernel
set_option maxRecDepth 100000 in
theorem zpo7_l : zck 200 (zbx (-2147483648) (-1) 7) = true := by decide +kernel
