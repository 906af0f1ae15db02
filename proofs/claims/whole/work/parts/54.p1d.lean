set_option maxRecDepth 1000000 in
theorem p1op_35 : sRun pg 6 (sExec pg 6 5000 8) pgLaw 5000 (sCx 35) 0 [(0, .inl (.ref 0))] [] [] sFin = true := by decide +kernel
