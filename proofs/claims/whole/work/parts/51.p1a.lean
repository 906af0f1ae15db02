set_option maxRecDepth 1000000 in
theorem p1op_0 : sRun pg 6 (sExec pg 6 5000 8) pgLaw 5000 (sCx 0) 0 [(0, .inl (.ref 0))] [] [] sFin = true := by decide +kernel
set_option maxRecDepth 1000000 in
theorem p1op_2 : sRun pg 6 (sExec pg 6 5000 8) pgLaw 5000 (sCx 2) 0 [(0, .inl (.ref 0))] [] [] sFin = true := by decide +kernel
set_option maxRecDepth 1000000 in
theorem p1op_28 : sRun pg 6 (sExec pg 6 5000 8) pgLaw 5000 (sCx 28) 0 [(0, .inl (.ref 0))] [] [] sFin = true := by decide +kernel
set_option maxRecDepth 1000000 in
theorem p1op_10 : sRun pg 6 (sExec pg 6 5000 8) pgLaw 5000 (sCx 10) 0 [(0, .inl (.ref 0))] [] [] sFin = true := by decide +kernel
