/-! the law's code, by the kernel -/
set_option maxRecDepth 100000 in
theorem ckLaw_0 : (List.range' 0 120).all (ckAt 271) = true := by decide +kernel
set_option maxRecDepth 100000 in
theorem ckLaw_1 : (List.range' 120 120).all (ckAt 271) = true := by decide +kernel
set_option maxRecDepth 100000 in
theorem ckLaw_2 : (List.range' 240 120).all (ckAt 271) = true := by decide +kernel
