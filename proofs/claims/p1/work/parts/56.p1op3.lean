set_option maxRecDepth 1000000 in
theorem p1op_7 : fLaw 6 (sCx 7 7) = true := by decide +kernel
