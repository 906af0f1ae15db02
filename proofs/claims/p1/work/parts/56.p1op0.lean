set_option maxRecDepth 1000000 in
theorem p1op_0 : fLaw 6 (sCx 0 0) = true := by decide +kernel
set_option maxRecDepth 1000000 in
theorem p1op_2 : fLaw 6 (sCx 2 2) = true := by decide +kernel
set_option maxRecDepth 1000000 in
theorem p1op_10 : fLaw 6 (sCx 10 10) = true := by decide +kernel
set_option maxRecDepth 1000000 in
theorem p1op_11 : fLaw 6 (sCx 11 11) = true := by decide +kernel
set_option maxRecDepth 1000000 in
theorem p1op_12 : fLaw 6 (sCx 12 12) = true := by decide +kernel
set_option maxRecDepth 1000000 in
theorem p1op_13 : fLaw 6 (sCx 13 13) = true := by decide +kernel
set_option maxRecDepth 1000000 in
theorem p1op_14 : fLaw 6 (sCx 14 14) = true := by decide +kernel
set_option maxRecDepth 1000000 in
theorem p1op_15 : fLaw 6 (sCx 15 15) = true := by decide +kernel
set_option maxRecDepth 1000000 in
theorem p1op_16 : fLaw 6 (sCx 16 16) = true := by decide +kernel
