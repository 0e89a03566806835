set_option maxRecDepth 100000 in
theorem zpo5_5 : zck 200 (zbx (5) (5) 5) = true := by decide +kernel
set_option maxRecDepth 100000 in
theorem zpo13_h : zck 200 (zbx (6) (2147483647) 13) = true := by decide +kernel
set_option maxRecDepth 100000 in
theorem zpo7_l : zck 200 (zbx (-2147483648) (-1) 7) = true := by decide +kernel
set_option maxRecDepth 100000 in
theorem zpo9_l : zck 200 (zbx (-2147483648) (-1) 9) = true := by decide +kernel
set_option maxRecDepth 100000 in
theorem zpo12_l : zck 200 (zbx (-2147483648) (-1) 12) = true := by decide +kernel
set_option maxRecDepth 100000 in
theorem zpo13_l : zck 200 (zbx (-2147483648) (-1) 13) = true := by decide +kernel
set_option maxRecDepth 100000 in
theorem zpo31 : zck 200 (zbx (-2147483648) (2147483647) 31) = true := by decide +kernel
