set_option maxRecDepth 100000 in
theorem zpo5_3 : zck 200 (zbx (3) (3) 5) = true := by decide +kernel
set_option maxRecDepth 100000 in
theorem zpo15 : zck 200 (zbx (-2147483648) (2147483647) 15) = true := by decide +kernel
set_option maxRecDepth 100000 in
theorem zpo19 : zck 200 (zbx (-2147483648) (2147483647) 19) = true := by decide +kernel
set_option maxRecDepth 100000 in
theorem zpo22 : zck 200 (zbx (-2147483648) (2147483647) 22) = true := by decide +kernel
set_option maxRecDepth 100000 in
theorem zpo5_h : zck 200 (zbx (6) (2147483647) 5) = true := by decide +kernel
set_option maxRecDepth 100000 in
theorem zpo10_h : zck 200 (zbx (6) (2147483647) 10) = true := by decide +kernel
set_option maxRecDepth 100000 in
theorem zpo5_l : zck 200 (zbx (-2147483648) (-1) 5) = true := by decide +kernel
set_option maxRecDepth 100000 in
theorem zpo10_l : zck 200 (zbx (-2147483648) (-1) 10) = true := by decide +kernel
set_option maxRecDepth 100000 in
theorem zpo6_h : zck 200 (zbx (6) (2147483647) 6) = true := by decide +kernel
set_option maxRecDepth 100000 in
theorem zpo29 : zck 200 (zbx (-2147483648) (2147483647) 29) = true := by decide +kernel
set_option maxRecDepth 100000 in
theorem zpo30 : zck 200 (zbx (-2147483648) (2147483647) 30) = true := by decide +kernel
