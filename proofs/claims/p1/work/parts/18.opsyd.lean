set_option maxRecDepth 100000 in
theorem zpo23_3 : zck 200 (zbx (3) (3) 23) = true := by decide +kernel
set_option maxRecDepth 100000 in
theorem zpo8_3 : zck 200 (zbx (3) (3) 8) = true := by decide +kernel
set_option maxRecDepth 100000 in
theorem zpo10_h : zck 200 (zbx (6) (2147483647) 10) = true := by decide +kernel
set_option maxRecDepth 100000 in
theorem zpo11_l : zck 200 (zbx (-2147483648) (-1) 11) = true := by decide +kernel
set_option maxRecDepth 100000 in
theorem zpo11_h : zck 200 (zbx (6) (2147483647) 11) = true := by decide +kernel
