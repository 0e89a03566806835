set_option maxRecDepth 100000 in
theorem zpo5_1 : zck 200 (zbx (1) (1) 5) = true := by decide +kernel
set_option maxRecDepth 100000 in
theorem zpo23_3 : zck 200 (zbx (3) (3) 23) = true := by decide +kernel
set_option maxRecDepth 100000 in
theorem zpo11_3 : zck 200 (zbx (3) (3) 11) = true := by decide +kernel
set_option maxRecDepth 100000 in
theorem zpo13_1 : zck 200 (zbx (1) (1) 13) = true := by decide +kernel
set_option maxRecDepth 100000 in
theorem zpo12_0 : zck 200 (zbx (0) (0) 12) = true := by decide +kernel
set_option maxRecDepth 100000 in
theorem zpo0 : zck 200 (zbx (-2147483648) (2147483647) 0) = true := by decide +kernel
set_option maxRecDepth 100000 in
theorem zpo19 : zck 200 (zbx (-2147483648) (2147483647) 19) = true := by decide +kernel
set_option maxRecDepth 100000 in
theorem zpo29 : zck 200 (zbx (-2147483648) (2147483647) 29) = true := by decide +kernel
set_option maxRecDepth 100000 in
theorem zpo7_0 : zck 200 (zbx (0) (0) 7) = true := by decide +kernel
set_option maxRecDepth 100000 in
theorem zpo10_2 : zck 200 (zbx (2) (2) 10) = true := by decide +kernel
set_option maxRecDepth 100000 in
theorem zpo6_5 : zck 200 (zbx (5) (5) 6) = true := by decide +kernel
