set_option maxRecDepth 100000 in
theorem zpo5_5 : zck 200 (zbx (5) (5) 5) = true := by decide +kernel
