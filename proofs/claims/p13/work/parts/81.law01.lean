/-! the law's code, by the kernel -/
set_option maxRecDepth 100000 in
theorem ckLaw_3 : (List.range' 360 120).all (ckAt 271) = true := by decide +kernel
set_option maxRecDepth 100000 in
theorem ckLaw_4 : (List.range' 480 120).all (ckAt 271) = true := by decide +kernel
set_option maxRecDepth 100000 in
theorem ckLaw_5 : (List.range' 600 120).all (ckAt 271) = true := by decide +kernel
