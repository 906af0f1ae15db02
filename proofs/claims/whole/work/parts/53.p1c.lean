set_option maxRecDepth 1000000 in
theorem p1op_3 : sRun pg 6 (sExec pg 6 5000 8) pgLaw 5000 (sCx 3) 0 [(0, .inl (.ref 0))] [] [] sFin = true := by decide +kernel
set_option maxRecDepth 1000000 in
theorem p1op_4 : sRun pg 6 (sExec pg 6 5000 8) pgLaw 5000 (sCx 4) 0 [(0, .inl (.ref 0))] [] [] sFin = true := by decide +kernel
set_option maxRecDepth 1000000 in
theorem p1op_5 : sRun pg 6 (sExec pg 6 5000 8) pgLaw 5000 (sCx 5) 0 [(0, .inl (.ref 0))] [] [] sFin = true := by decide +kernel
set_option maxRecDepth 1000000 in
theorem p1op_6 : sRun pg 6 (sExec pg 6 5000 8) pgLaw 5000 (sCx 6) 0 [(0, .inl (.ref 0))] [] [] sFin = true := by decide +kernel
