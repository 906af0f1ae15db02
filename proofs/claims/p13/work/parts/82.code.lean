theorem ckLaw_all : ckCode 271 = true := by
  refine List.all_eq_true.mpr (fun pc hpc => ?_)
  have hpc : pc < 1428 := List.mem_range.mp hpc
  by_cases h0 : pc < 120
  · exact List.all_eq_true.mp ckLaw_0 pc (List.mem_range'_1.mpr ⟨by omega, by omega⟩)
  by_cases h1 : pc < 240
  · exact List.all_eq_true.mp ckLaw_1 pc (List.mem_range'_1.mpr ⟨by omega, by omega⟩)
  by_cases h2 : pc < 360
  · exact List.all_eq_true.mp ckLaw_2 pc (List.mem_range'_1.mpr ⟨by omega, by omega⟩)
  by_cases h3 : pc < 480
  · exact List.all_eq_true.mp ckLaw_3 pc (List.mem_range'_1.mpr ⟨by omega, by omega⟩)
  by_cases h4 : pc < 600
  · exact List.all_eq_true.mp ckLaw_4 pc (List.mem_range'_1.mpr ⟨by omega, by omega⟩)
  by_cases h5 : pc < 720
  · exact List.all_eq_true.mp ckLaw_5 pc (List.mem_range'_1.mpr ⟨by omega, by omega⟩)
  by_cases h6 : pc < 840
  · exact List.all_eq_true.mp ckLaw_6 pc (List.mem_range'_1.mpr ⟨by omega, by omega⟩)
  by_cases h7 : pc < 960
  · exact List.all_eq_true.mp ckLaw_7 pc (List.mem_range'_1.mpr ⟨by omega, by omega⟩)
  by_cases h8 : pc < 1080
  · exact List.all_eq_true.mp ckLaw_8 pc (List.mem_range'_1.mpr ⟨by omega, by omega⟩)
  by_cases h9 : pc < 1200
  · exact List.all_eq_true.mp ckLaw_9 pc (List.mem_range'_1.mpr ⟨by omega, by omega⟩)
  by_cases h10 : pc < 1320
  · exact List.all_eq_true.mp ckLaw_10 pc (List.mem_range'_1.mpr ⟨by omega, by omega⟩)
  by_cases h11 : pc < 1428
  · exact List.all_eq_true.mp ckLaw_11 pc (List.mem_range'_1.mpr ⟨by omega, by omega⟩)
  omega
theorem ckCode_all (z : Nat) (hz : z < 272) : ckCode z = true := by
  by_cases h : z < 271
  · exact ckCode_most z h
  · have : z = 271 := by omega
    subst this
    exact ckLaw_all
