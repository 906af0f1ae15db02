set_option maxRecDepth 1000000 in
theorem p1op_18 : fLaw 6 (sCx 18 18) = true := by decide +kernel
set_option maxRecDepth 1000000 in
theorem p1op_19 : fLaw 6 (sCx 19 19) = true := by decide +kernel
set_option maxRecDepth 1000000 in
theorem p1op_20 : fLaw 6 (sCx 20 20) = true := by decide +kernel
set_option maxRecDepth 1000000 in
theorem p1op_21 : fLaw 6 (sCx 21 21) = true := by decide +kernel
set_option maxRecDepth 1000000 in
theorem p1op_22 : fLaw 6 (sCx 22 22) = true := by decide +kernel
set_option maxRecDepth 1000000 in
theorem p1op_23 : fLaw 6 (sCx 23 23) = true := by decide +kernel
set_option maxRecDepth 1000000 in
theorem p1op_24 : fLaw 6 (sCx 24 24) = true := by decide +kernel
set_option maxRecDepth 1000000 in
theorem p1op_25 : fLaw 6 (sCx 25 25) = true := by decide +kernel
set_option maxRecDepth 1000000 in
theorem p1op_26 : fLaw 6 (sCx 26 26) = true := by decide +kernel
set_option maxRecDepth 1000000 in
theorem p1op_27 : fLaw 6 (sCx 27 27) = true := by decide +kernel
set_option maxRecDepth 1000000 in
theorem p1op_28 : fLaw 6 (sCx 28 28) = true := by decide +kernel
set_option maxRecDepth 1000000 in
theorem p1op_29 : fLaw 6 (sCx 29 29) = true := by decide +kernel
set_option maxRecDepth 1000000 in
theorem p1op_30 : fLaw 6 (sCx 30 30) = true := by decide +kernel
set_option maxRecDepth 1000000 in
theorem p1op_31 : fLaw 6 (sCx 31 31) = true := by decide +kernel
set_option maxRecDepth 1000000 in
theorem p1op_32 : fLaw 6 (sCx 32 32) = true := by decide +kernel
set_option maxRecDepth 1000000 in
theorem p1op_33 : fLaw 6 (sCx 33 33) = true := by decide +kernel
set_option maxRecDepth 1000000 in
theorem p1op_34 : fLaw 6 (sCx 34 34) = true := by decide +kernel
set_option maxRecDepth 1000000 in
theorem p1op_35 : fLaw 6 (sCx 35 35) = true := by decide +kernel
set_option maxRecDepth 1000000 in
theorem p1op_36 : fLaw 6 (sCx 36 63) = true := by decide +kernel
set_option maxRecDepth 1000000 in
theorem p1len_0 : fLaw 0 [] = true := by decide +kernel
set_option maxRecDepth 1000000 in
theorem p1len_1 : fLaw 1 [] = true := by decide +kernel
set_option maxRecDepth 1000000 in
theorem p1len_2 : fLaw 2 [] = true := by decide +kernel
set_option maxRecDepth 1000000 in
theorem p1len_3 : fLaw 3 [] = true := by decide +kernel
set_option maxRecDepth 1000000 in
theorem p1len_4 : fLaw 4 [] = true := by decide +kernel
set_option maxRecDepth 1000000 in
theorem p1len_5 : fLaw 5 [] = true := by decide +kernel
