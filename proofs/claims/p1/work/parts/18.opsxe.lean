set_option maxRecDepth 100000 in
theorem zpo5_4 : zck 200 (zbx (4) (4) 5) = true := by decide +kernel
set_option maxRecDepth 100000 in
theorem zpo8_h : zck 200 (zbx (6) (2147483647) 8) = true := by decide +kernel
set_option maxRecDepth 100000 in
theorem zpo11_h : zck 200 (zbx (6) (2147483647) 11) = true := by decide +kernel
set_option maxRecDepth 100000 in
theorem zpo18_h : zck 200 (zbx (6) (2147483647) 18) = true := by decide +kernel
set_option maxRecDepth 100000 in
theorem zpo6_l : zck 200 (zbx (-2147483648) (-1) 6) = true := by decide +kernel
set_option maxRecDepth 100000 in
theorem zpo8_l : zck 200 (zbx (-2147483648) (-1) 8) = true := by decide +kernel
set_option maxRecDepth 100000 in
theorem zpo11_l : zck 200 (zbx (-2147483648) (-1) 11) = true := by decide +kernel
set_option maxRecDepth 100000 in
theorem zpo18_l : zck 200 (zbx (-2147483648) (-1) 18) = true := by decide +kernel
set_option maxRecDepth 100000 in
theorem zpo23_h : zck 200 (zbx (8) (2147483647) 23) = true := by decide +kernel
set_option maxRecDepth 100000 in
theorem zpo7_h : zck 200 (zbx (6) (2147483647) 7) = true := by decide +kernel
set_option maxRecDepth 100000 in
theorem zpo9_h : zck 200 (zbx (6) (2147483647) 9) = true := by decide +kernel
set_option maxRecDepth 100000 in
theorem zpo12_h : zck 200 (zbx (6) (2147483647) 12) = true := by decide +kernel
set_option maxRecDepth 100000 in
theorem zpo23_l : zck 200 (zbx (-2147483648) (-1) 23) = true := by decide +kernel
