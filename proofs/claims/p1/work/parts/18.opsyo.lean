set_option maxRecDepth 100000 in
theorem zpo3 : zck 200 (zbx (-2147483648) (2147483647) 3) = true := by decide +kernel
set_option maxRecDepth 100000 in
theorem zpo4 : zck 200 (zbx (-2147483648) (2147483647) 4) = true := by decide +kernel
set_option maxRecDepth 100000 in
theorem zpo15 : zck 200 (zbx (-2147483648) (2147483647) 15) = true := by decide +kernel
set_option maxRecDepth 100000 in
theorem zpo16 : zck 200 (zbx (-2147483648) (2147483647) 16) = true := by decide +kernel
set_option maxRecDepth 100000 in
theorem zpo17 : zck 200 (zbx (-2147483648) (2147483647) 17) = true := by decide +kernel
set_option maxRecDepth 100000 in
theorem zpo19 : zck 200 (zbx (-2147483648) (2147483647) 19) = true := by decide +kernel
set_option maxRecDepth 100000 in
theorem zpo20 : zck 200 (zbx (-2147483648) (2147483647) 20) = true := by decide +kernel
set_option maxRecDepth 100000 in
theorem zpo21 : zck 200 (zbx (-2147483648) (2147483647) 21) = true := by decide +kernel
set_option maxRecDepth 100000 in
theorem zpo6_5 : zck 200 (zbx (5) (5) 6) = true := by decide +kernel
