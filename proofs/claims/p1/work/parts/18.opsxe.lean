set_option maxRecDepth 100000 in
theorem zpo5_4 : zck 200 (zbx (4) (4) 5) = true := by decide +kernel
