set_option maxRecDepth 100000 in
theorem zpo5_0 : zck 200 (zbx (0) (0) 5) = true := by decide +kernel
