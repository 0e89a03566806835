set_option maxRecDepth 100000 in
theorem zpo14 : zck 200 (zbx (-2147483648) (2147483647) 14) = true := by decide +kernel
set_option maxRecDepth 100000 in
theorem zpo24 : zck 200 (zbx (-2147483648) (2147483647) 24) = true := by decide +kernel
set_option maxRecDepth 100000 in
theorem zpo18_0 : zck 200 (zbx (0) (0) 18) = true := by decide +kernel
set_option maxRecDepth 100000 in
theorem zpo18_1 : zck 200 (zbx (1) (1) 18) = true := by decide +kernel
set_option maxRecDepth 100000 in
theorem zpo13_0 : zck 200 (zbx (0) (0) 13) = true := by decide +kernel
