set_option maxRecDepth 100000 in
theorem zpo5_2 : zck 200 (zbx (2) (2) 5) = true := by decide +kernel
set_option maxRecDepth 100000 in
theorem zpo2 : zck 200 (zbx (-2147483648) (2147483647) 2) = true := by decide +kernel
set_option maxRecDepth 100000 in
theorem zpo17 : zck 200 (zbx (-2147483648) (2147483647) 17) = true := by decide +kernel
set_option maxRecDepth 100000 in
theorem zpo20 : zck 200 (zbx (-2147483648) (2147483647) 20) = true := by decide +kernel
set_option maxRecDepth 100000 in
theorem zpo1 : zck 200 (zbx (-2147483648) (2147483647) 1) = true := by decide +kernel
set_option maxRecDepth 100000 in
theorem zpo28 : zck 200 (zbx (-2147483648) (2147483647) 28) = true := by decide +kernel
