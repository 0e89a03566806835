set_option maxRecDepth 100000 in
theorem zpo5_3 : zck 200 (zbx (3) (3) 5) = true := by decide +kernel
set_option maxRecDepth 100000 in
theorem zpo23_5 : zck 200 (zbx (5) (5) 23) = true := by decide +kernel
set_option maxRecDepth 100000 in
theorem zpo11_5 : zck 200 (zbx (5) (5) 11) = true := by decide +kernel
set_option maxRecDepth 100000 in
theorem zpo13_3 : zck 200 (zbx (3) (3) 13) = true := by decide +kernel
set_option maxRecDepth 100000 in
theorem zpo12_2 : zck 200 (zbx (2) (2) 12) = true := by decide +kernel
set_option maxRecDepth 100000 in
theorem zpo2 : zck 200 (zbx (-2147483648) (2147483647) 2) = true := by decide +kernel
set_option maxRecDepth 100000 in
theorem zpo21 : zck 200 (zbx (-2147483648) (2147483647) 21) = true := by decide +kernel
set_option maxRecDepth 100000 in
theorem zpo31 : zck 200 (zbx (-2147483648) (2147483647) 31) = true := by decide +kernel
set_option maxRecDepth 100000 in
theorem zpo7_2 : zck 200 (zbx (2) (2) 7) = true := by decide +kernel
set_option maxRecDepth 100000 in
theorem zpo10_4 : zck 200 (zbx (4) (4) 10) = true := by decide +kernel
set_option maxRecDepth 100000 in
theorem zpo5_h : zck 200 (zbx (6) (2147483647) 5) = true := by decide +kernel
set_option maxRecDepth 100000 in
theorem zpo7_l : zck 200 (zbx (-2147483648) (-1) 7) = true := by decide +kernel
set_option maxRecDepth 100000 in
theorem zpo9_l : zck 200 (zbx (-2147483648) (-1) 9) = true := by decide +kernel
set_option maxRecDepth 100000 in
theorem zpo11_h : zck 200 (zbx (6) (2147483647) 11) = true := by decide +kernel
set_option maxRecDepth 100000 in
theorem zpo23_l : zck 200 (zbx (-2147483648) (-1) 23) = true := by decide +kernel
