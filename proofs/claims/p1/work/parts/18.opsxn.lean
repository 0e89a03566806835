set_option maxRecDepth 100000 in
theorem zpo13_1 : zck 200 (zbx (1) (1) 13) = true := by decide +kernel
set_option maxRecDepth 100000 in
theorem zpo13_2 : zck 200 (zbx (2) (2) 13) = true := by decide +kernel
set_option maxRecDepth 100000 in
theorem zpo13_3 : zck 200 (zbx (3) (3) 13) = true := by decide +kernel
set_option maxRecDepth 100000 in
theorem zpo13_4 : zck 200 (zbx (4) (4) 13) = true := by decide +kernel
set_option maxRecDepth 100000 in
theorem zpo13_5 : zck 200 (zbx (5) (5) 13) = true := by decide +kernel
set_option maxRecDepth 100000 in
theorem zpo12_1 : zck 200 (zbx (1) (1) 12) = true := by decide +kernel
set_option maxRecDepth 100000 in
theorem zpo12_2 : zck 200 (zbx (2) (2) 12) = true := by decide +kernel
set_option maxRecDepth 100000 in
theorem zpo12_3 : zck 200 (zbx (3) (3) 12) = true := by decide +kernel
set_option maxRecDepth 100000 in
theorem zpo10_l : zck 200 (zbx (-2147483648) (-1) 10) = true := by decide +kernel
set_option maxRecDepth 100000 in
theorem zpo10_h : zck 200 (zbx (6) (2147483647) 10) = true := by decide +kernel
set_option maxRecDepth 100000 in
theorem zpo11_l : zck 200 (zbx (-2147483648) (-1) 11) = true := by decide +kernel
set_option maxRecDepth 100000 in
theorem zpo11_h : zck 200 (zbx (6) (2147483647) 11) = true := by decide +kernel
