set_option maxRecDepth 1000000 in
theorem p1op_3 : fLaw 6 (sCx 3 3) = true := by decide +kernel
set_option maxRecDepth 1000000 in
theorem p1op_4 : fLaw 6 (sCx 4 4) = true := by decide +kernel
set_option maxRecDepth 1000000 in
theorem p1op_5 : fLaw 6 (sCx 5 5) = true := by decide +kernel
set_option maxRecDepth 1000000 in
theorem p1op_6 : fLaw 6 (sCx 6 6) = true := by decide +kernel
