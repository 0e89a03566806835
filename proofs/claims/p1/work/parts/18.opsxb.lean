set_option maxRecDepth 100000 in
theorem zpo5_1 : zck 200 (zbx (1) (1) 5) = true := by decide +kernel
