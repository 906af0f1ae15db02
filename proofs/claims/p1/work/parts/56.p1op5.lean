set_option maxRecDepth 1000000 in
theorem p1op_17 : fLaw 6 (sCx 17 17) = true := by decide +kernel
