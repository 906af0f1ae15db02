/-! the law's code, by the kernel -/
set_option maxRecDepth 100000 in
theorem ckLaw_9 : (List.range' 1080 120).all (ckAt 271) = true := by decide +kernel
set_option maxRecDepth 100000 in
theorem ckLaw_10 : (List.range' 1200 120).all (ckAt 271) = true := by decide +kernel
set_option maxRecDepth 100000 in
theorem ckLaw_11 : (List.range' 1320 108).all (ckAt 271) = true := by decide +kernel
