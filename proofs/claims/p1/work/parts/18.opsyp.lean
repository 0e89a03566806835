set_option maxRecDepth 100000 in
theorem zpo22 : zck 200 (zbx (-2147483648) (2147483647) 22) = true := by decide +kernel
set_option maxRecDepth 100000 in
theorem zpo25 : zck 200 (zbx (-2147483648) (2147483647) 25) = true := by decide +kernel
set_option maxRecDepth 100000 in
theorem zpo26 : zck 200 (zbx (-2147483648) (2147483647) 26) = true := by decide +kernel
set_option maxRecDepth 100000 in
theorem zpo27 : zck 200 (zbx (-2147483648) (2147483647) 27) = true := by decide +kernel
set_option maxRecDepth 100000 in
theorem zpo28 : zck 200 (zbx (-2147483648) (2147483647) 28) = true := by decide +kernel
set_option maxRecDepth 100000 in
theorem zpo29 : zck 200 (zbx (-2147483648) (2147483647) 29) = true := by decide +kernel
set_option maxRecDepth 100000 in
theorem zpo30 : zck 200 (zbx (-2147483648) (2147483647) 30) = true := by decide +kernel
set_option maxRecDepth 100000 in
theorem zpo31 : zck 200 (zbx (-2147483648) (2147483647) 31) = true := by decide +kernel
