set_option maxRecDepth 100000 in
theorem zpo5_3 : zck 200 (zbx (3) (3) 5) = true := by decide +kernel
