set_option maxRecDepth 100000 in
theorem zpo5_0 : zck 200 (zbx (0) (0) 5) = true := by decide +kernel
set_option maxRecDepth 100000 in
theorem zpo21 : zck 200 (zbx (-2147483648) (2147483647) 21) = true := by decide +kernel
set_option maxRecDepth 100000 in
theorem zpo16 : zck 200 (zbx (-2147483648) (2147483647) 16) = true := by decide +kernel
set_option maxRecDepth 100000 in
theorem zpo27 : zck 200 (zbx (-2147483648) (2147483647) 27) = true := by decide +kernel
