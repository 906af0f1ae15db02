set_option maxRecDepth 1000000 in
theorem p1op_1 : fLaw 6 (sCx 1 1) = true := by decide +kernel
