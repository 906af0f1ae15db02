/-! the law's code, by the kernel -/
set_option maxRecDepth 100000 in
theorem ckLaw_6 : (List.range' 720 120).all (ckAt 271) = true := by decide +kernel
set_option maxRecDepth 100000 in
theorem ckLaw_7 : (List.range' 840 120).all (ckAt 271) = true := by decide +kernel
set_option maxRecDepth 100000 in
theorem ckLaw_8 : (List.range' 960 120).all (ckAt 271) = true := by decide +kernel
