set_option maxRecDepth 100000 in
theorem zpo14 : zck 200 (zbx (-2147483648) (2147483647) 14) = true := by decide +kernel
set_option maxRecDepth 100000 in
theorem zpo24 : zck 200 (zbx (-2147483648) (2147483647) 24) = true := by decide +kernel
set_option maxRecDepth 100000 in
theorem zpo18_0 : zck 200 (zbx (0) (0) 18) = true := by decide +kernel
set_option maxRecDepth 100000 in
theorem zpo13_0 : zck 200 (zbx (0) (0) 13) = true := by decide +kernel
set_option maxRecDepth 100000 in
theorem zpo9_0 : zck 200 (zbx (0) (0) 9) = true := by decide +kernel
set_option maxRecDepth 100000 in
theorem zpo5_l : zck 200 (zbx (-2147483648) (-1) 5) = true := by decide +kernel
set_option maxRecDepth 100000 in
theorem zpo5_h : zck 200 (zbx (6) (2147483647) 5) = true := by decide +kernel
