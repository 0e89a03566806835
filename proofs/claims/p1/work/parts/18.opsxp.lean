set_option maxRecDepth 100000 in
theorem zpo26 : zck 200 (zbx (-2147483648) (2147483647) 26) = true := by decide +kernel
set_option maxRecDepth 100000 in
theorem zpo27 : zck 200 (zbx (-2147483648) (2147483647) 27) = true := by decide +kernel
set_option maxRecDepth 100000 in
theorem zpo28 : zck 200 (zbx (-2147483648) (2147483647) 28) = true := by decide +kernel
set_option maxRecDepth 100000 in
theorem zpo29 : zck 200 (zbx (-2147483648) (2147483647) 29) = true := by decide +kernel
set_option maxRecDepth 100000 in
theorem zpo30 : zck 200 (zbx (-2147483648) (2147483647) 30) = true := by decide +kernel
set_option maxRecDepth 100000 in
theorem zpo31 : zck 200 (zbx (-2147483648) (2147483647) 31) = true := by decide +kernel
set_option maxRecDepth 100000 in
theorem zpo9_2 : zck 200 (zbx (2) (2) 9) = true := by decide +kernel
set_option maxRecDepth 100000 in
theorem zpo9_3 : zck 200 (zbx (3) (3) 9) = true := by decide +kernel
set_option maxRecDepth 100000 in
theorem zpo9_4 : zck 200 (zbx (4) (4) 9) = true := by decide +kernel
set_option maxRecDepth 100000 in
theorem zpo9_5 : zck 200 (zbx (5) (5) 9) = true := by decide +kernel
set_option maxRecDepth 100000 in
theorem zpo7_0 : zck 200 (zbx (0) (0) 7) = true := by decide +kernel
set_option maxRecDepth 100000 in
theorem zpo7_1 : zck 200 (zbx (1) (1) 7) = true := by decide +kernel
set_option maxRecDepth 100000 in
theorem zpo7_2 : zck 200 (zbx (2) (2) 7) = true := by decide +kernel
set_option maxRecDepth 100000 in
theorem zpo7_3 : zck 200 (zbx (3) (3) 7) = true := by decide +kernel
set_option maxRecDepth 100000 in
theorem zpo7_4 : zck 200 (zbx (4) (4) 7) = true := by decide +kernel
set_option maxRecDepth 100000 in
theorem zpo7_5 : zck 200 (zbx (5) (5) 7) = true := by decide +kernel
set_option maxRecDepth 100000 in
theorem zpo10_0 : zck 200 (zbx (0) (0) 10) = true := by decide +kernel
set_option maxRecDepth 100000 in
theorem zpo10_1 : zck 200 (zbx (1) (1) 10) = true := by decide +kernel
set_option maxRecDepth 100000 in
theorem zpo10_2 : zck 200 (zbx (2) (2) 10) = true := by decide +kernel
set_option maxRecDepth 100000 in
theorem zpo10_3 : zck 200 (zbx (3) (3) 10) = true := by decide +kernel
set_option maxRecDepth 100000 in
theorem zpo10_4 : zck 200 (zbx (4) (4) 10) = true := by decide +kernel
set_option maxRecDepth 100000 in
theorem zpo13_l : zck 200 (zbx (-2147483648) (-1) 13) = true := by decide +kernel
set_option maxRecDepth 100000 in
theorem zpo13_h : zck 200 (zbx (6) (2147483647) 13) = true := by decide +kernel
set_option maxRecDepth 100000 in
theorem zpo18_l : zck 200 (zbx (-2147483648) (-1) 18) = true := by decide +kernel
