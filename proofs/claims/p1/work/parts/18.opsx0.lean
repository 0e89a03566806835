set_option maxRecDepth 100000 in
theorem zpo5_0 : zck 200 (zbx (0) (0) 5) = true := by decide +kernel
set_option maxRecDepth 100000 in
theorem zpo23_2 : zck 200 (zbx (2) (2) 23) = true := by decide +kernel
set_option maxRecDepth 100000 in
theorem zpo11_2 : zck 200 (zbx (2) (2) 11) = true := by decide +kernel
set_option maxRecDepth 100000 in
theorem zpo13_0 : zck 200 (zbx (0) (0) 13) = true := by decide +kernel
set_option maxRecDepth 100000 in
theorem zpo13_5 : zck 200 (zbx (5) (5) 13) = true := by decide +kernel
set_option maxRecDepth 100000 in
theorem zpo17 : zck 200 (zbx (-2147483648) (2147483647) 17) = true := by decide +kernel
set_option maxRecDepth 100000 in
theorem zpo28 : zck 200 (zbx (-2147483648) (2147483647) 28) = true := by decide +kernel
set_option maxRecDepth 100000 in
theorem zpo9_5 : zck 200 (zbx (5) (5) 9) = true := by decide +kernel
set_option maxRecDepth 100000 in
theorem zpo10_1 : zck 200 (zbx (1) (1) 10) = true := by decide +kernel
set_option maxRecDepth 100000 in
theorem zpo6_3 : zck 200 (zbx (3) (3) 6) = true := by decide +kernel
set_option maxRecDepth 100000 in
theorem zpo13_l : zck 200 (zbx (-2147483648) (-1) 13) = true := by decide +kernel
