set_option maxRecDepth 100000 in
theorem zpo5_1 : zck 200 (zbx (1) (1) 5) = true := by decide +kernel
set_option maxRecDepth 100000 in
theorem zpo3 : zck 200 (zbx (-2147483648) (2147483647) 3) = true := by decide +kernel
set_option maxRecDepth 100000 in
theorem zpo25 : zck 200 (zbx (-2147483648) (2147483647) 25) = true := by decide +kernel
