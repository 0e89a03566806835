set_option maxRecDepth 100000 in
theorem zpo12_3 : zck 200 (zbx (3) (3) 12) = true := by decide +kernel
set_option maxRecDepth 100000 in
theorem zpo12_4 : zck 200 (zbx (4) (4) 12) = true := by decide +kernel
set_option maxRecDepth 100000 in
theorem zpo12_5 : zck 200 (zbx (5) (5) 12) = true := by decide +kernel
set_option maxRecDepth 100000 in
theorem zpo0 : zck 200 (zbx (-2147483648) (2147483647) 0) = true := by decide +kernel
set_option maxRecDepth 100000 in
theorem zpo1 : zck 200 (zbx (-2147483648) (2147483647) 1) = true := by decide +kernel
set_option maxRecDepth 100000 in
theorem zpo2 : zck 200 (zbx (-2147483648) (2147483647) 2) = true := by decide +kernel
set_option maxRecDepth 100000 in
theorem zpo6_4 : zck 200 (zbx (4) (4) 6) = true := by decide +kernel
