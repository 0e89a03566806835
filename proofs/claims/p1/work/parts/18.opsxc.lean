set_option maxRecDepth 100000 in
theorem zpo5_2 : zck 200 (zbx (2) (2) 5) = true := by decide +kernel
