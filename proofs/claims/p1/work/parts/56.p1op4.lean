set_option maxRecDepth 1000000 in
theorem p1op_8 : fLaw 6 (sCx 8 8) = true := by decide +kernel
set_option maxRecDepth 1000000 in
theorem p1op_9 : fLaw 6 (sCx 9 9) = true := by decide +kernel
