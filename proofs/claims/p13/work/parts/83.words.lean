/-! the words of the tables -/
def mTs : List Cond := lw_tbl.filter goodWord
def tbL (c : Nat) : List Cond := (bif Nat.blt c 4 then (bif Nat.blt c 2 then (bif Nat.blt c 1 then k2_sels lw_privs else tables_1_1) else (bif Nat.blt c 3 then tables_1_2 else tables_1_3)) else (bif Nat.blt c 6 then (bif Nat.blt c 5 then tables_1_4 else tables_1_5) else (bif Nat.blt c 7 then tables_1_6 else (bif Nat.blt c 8 then tables_1_7 else tables_1_8))))
theorem tbL_in (c : Nat) : ∀ w ∈ tbL c, w ∈ lw_tbl := by
  have h : tbL c = k2_sels lw_privs ∨ tbL c = tables_1_1 ∨ tbL c = tables_1_2 ∨ tbL c = tables_1_3 ∨ tbL c = tables_1_4 ∨ tbL c = tables_1_5 ∨ tbL c = tables_1_6 ∨ tbL c = tables_1_7 ∨ tbL c = tables_1_8 := by
    unfold tbL
    cases Nat.blt c 4 <;> cases Nat.blt c 2 <;> cases Nat.blt c 1 <;> cases Nat.blt c 3 <;> cases Nat.blt c 6 <;> cases Nat.blt c 5 <;> cases Nat.blt c 7 <;> cases Nat.blt c 8 <;> simp
  intro w hw
  show w ∈ k2_sels lw_privs ++ tables_1
  unfold tables_1
  simp only [List.mem_append]
  rcases h with h | h | h | h | h | h | h | h | h
  · rw [h] at hw; simp [hw]
  · rw [h] at hw; simp [hw]
  · rw [h] at hw; simp [hw]
  · rw [h] at hw; simp [hw]
  · rw [h] at hw; simp [hw]
  · rw [h] at hw; simp [hw]
  · rw [h] at hw; simp [hw]
  · rw [h] at hw; simp [hw]
  · rw [h] at hw; simp [hw]
def tbAt (p : Nat) : Option Cond := (tbL (p / 1000))[p % 1000]?
def ckT (i : Nat) (w : Cond) : Bool := goodWord w && decide (tbAt i = some w)
theorem tbAt_in {i : Nat} {w : Cond} (h : tbAt i = some w) : w ∈ lw_tbl := tbL_in _ w (List.mem_of_getElem? h)
theorem ckT_ok {i : Nat} {w : Cond} (h : ckT i w = true) : w ∈ mTs := by
  simp only [ckT, Bool.and_eq_true, decide_eq_true_eq] at h
  exact List.mem_filter.mpr ⟨tbAt_in h.2, h.1⟩
def eqL : List UInt8 → List UInt8 → Bool
  | [], [] => true
  | a :: s, b :: t => Nat.beq a.toNat b.toNat && eqL s t
  | _, _ => false
theorem eqL_ok : ∀ {a b : List UInt8}, eqL a b = true → a = b
  | [], [], _ => rfl
  | a :: s, b :: t, h => by
    simp only [eqL, Bool.and_eq_true, Nat.beq_eq] at h
    rw [UInt8.toNat_inj.mp h.1, eqL_ok h.2]
  | [], _ :: _, h => by simp [eqL] at h
  | _ :: _, [], h => by simp [eqL] at h
def eqBy (a b : ByteArray) : Bool := eqL a.data.toList b.data.toList
theorem eqBy_ok {a b : ByteArray} (h : eqBy a b = true) : a = b := by
  cases a; cases b
  have := eqL_ok h
  simp only [Array.toList_inj] at this
  rw [this]
theorem mTs_good : ∀ w ∈ mTs, (w.onTables && w.keeps) = true ∨ ∃ ty, w = .arrayClass ty := fun w h => good_of_word (List.mem_filter.mp h).2
theorem pgFind_mem {α : Type} {l : List (Nat × α)} {i : Nat} {a : α} (h : pgFind l i = some a) : (i, a) ∈ l := by
  induction l with
  | nil => cases h
  | cons q r ih =>
    rw [pgFind] at h
    cases hb : Nat.beq q.1 i with
    | true =>
      rw [hb] at h
      have h : some q.2 = some a := h
      cases h
      have := Nat.eq_of_beq_eq_true hb
      subst this
      exact List.mem_cons_self
    | false => rw [hb] at h; exact List.mem_cons_of_mem _ (ih h)
def mNL : List Cond := [.methodLinkNest "TypeRoom" 17 ⟨"TypeRoom$Trace", "<init>", "()V"⟩ "TypeRoom", .methodLinkNest "TypeRoom" 24 ⟨"TypeRoom$Reading", "<init>", "()V"⟩ "TypeRoom", .methodLinkNest "TypeRoom" 31 ⟨"TypeRoom$Composer", "<init>", "()V"⟩ "TypeRoom", .methodLinkNest "TypeRoom" 38 ⟨"TypeRoom$Pager", "<init>", "()V"⟩ "TypeRoom", .methodLinkNest "TypeRoom$Room" 31 ⟨"TypeRoom$Floor", "<init>", "()V"⟩ "TypeRoom", .methodLinkNest "TypeRoom$Fount" 65 ⟨"TypeRoom", "isOutside", "(III)Z"⟩ "TypeRoom", .methodLinkNest "TypeRoom$Sort" 53 ⟨"TypeRoom", "isOutside", "(III)Z"⟩ "TypeRoom", .methodLinkNest "TypeRoom$Trace" 25 ⟨"TypeRoom", "isOutside", "(III)Z"⟩ "TypeRoom", Cond.arrayOver (FieldType.object "TypeRoom$Room"), Cond.arrayOver (FieldType.object "TypeRoom$Line"), Cond.arrayOver (FieldType.object "TypeRoom$Fount"), Cond.arrayOver (FieldType.array FieldType.int), Cond.arrayOver (FieldType.object "TypeRoom$Sort"), Cond.arrayOver (FieldType.object "TypeRoom$Page"), Cond.arrayOver (FieldType.object "TypeRoom$Forme"), .castable "[I" "java/lang/Cloneable"]
def mNP : List Nat := [1030, 1045, 1075, 1138, 1182, 2228, 3069, 5144, 1027, 1080, 1177, 1179, 1187, 1190, 1192, 5015]
set_option maxRecDepth 100000 in
theorem mNL_in : ∀ w ∈ mNL, w ∈ lw_tbl := by
  have h : (mNL.zip mNP).all (fun q => decide (tbAt q.2 = some q.1)) = true := by decide +kernel
  have h2 : (mNL.zip mNP).map (fun q => q.1) = mNL := by decide +kernel
  intro w hw
  rw [← h2] at hw
  obtain ⟨q, hq, rfl⟩ := List.mem_map.mp hw
  have := List.all_eq_true.mp h q hq
  exact tbAt_in (by simpa using this)
theorem mNL_ok : mOKns mNL := by
  intro w hw
  simp only [mNL, List.mem_cons, List.not_mem_nil, or_false] at hw
  rcases hw with rfl | rfl | rfl | rfl | rfl | rfl | rfl | rfl | rfl | rfl | rfl | rfl | rfl | rfl | rfl | rfl
  · exact Or.inl ⟨_, _, _, _, rfl⟩
  · exact Or.inl ⟨_, _, _, _, rfl⟩
  · exact Or.inl ⟨_, _, _, _, rfl⟩
  · exact Or.inl ⟨_, _, _, _, rfl⟩
  · exact Or.inl ⟨_, _, _, _, rfl⟩
  · exact Or.inl ⟨_, _, _, _, rfl⟩
  · exact Or.inl ⟨_, _, _, _, rfl⟩
  · exact Or.inl ⟨_, _, _, _, rfl⟩
  · exact Or.inr (Or.inl ⟨_, rfl⟩)
  · exact Or.inr (Or.inl ⟨_, rfl⟩)
  · exact Or.inr (Or.inl ⟨_, rfl⟩)
  · exact Or.inr (Or.inr (Or.inl ⟨_, rfl⟩))
  · exact Or.inr (Or.inl ⟨_, rfl⟩)
  · exact Or.inr (Or.inl ⟨_, rfl⟩)
  · exact Or.inr (Or.inl ⟨_, rfl⟩)
  · exact Or.inr (Or.inr (Or.inr ⟨_, _, rfl⟩))
def pgMt0 (y : Nat) : Bool × Nat × Nat × Nat × Nat × Nat := (bif Nat.blt y 136 then (bif Nat.blt y 68 then (bif Nat.blt y 34 then (bif Nat.blt y 17 then (bif Nat.blt y 8 then (bif Nat.blt y 4 then (bif Nat.blt y 2 then (bif Nat.blt y 1 then (false, 1077, 1004, 1076, 0, 0) else (false, 3235, 1004, 3233, 3234, 3)) else (bif Nat.blt y 3 then (false, 4153, 1004, 4151, 4152, 1) else (false, 3239, 1004, 3238, 21, 0))) else (bif Nat.blt y 6 then (bif Nat.blt y 5 then (false, 4007, 1004, 4006, 22, 1) else (false, 4037, 1004, 4036, 28, 3)) else (bif Nat.blt y 7 then (false, 4059, 1004, 4058, 32, 0) else (false, 4012, 1004, 4011, 23, 0)))) else (bif Nat.blt y 12 then (bif Nat.blt y 10 then (bif Nat.blt y 9 then (false, 4041, 1004, 4040, 29, 1) else (false, 4045, 1004, 4044, 30, 3)) else (bif Nat.blt y 11 then (false, 4054, 1004, 4053, 31, 1) else (false, 4016, 1004, 4015, 24, 0))) else (bif Nat.blt y 14 then (bif Nat.blt y 13 then (false, 4033, 1004, 4032, 27, 0) else (false, 4028, 1004, 4027, 26, 1)) else (bif Nat.blt y 15 then (false, 4024, 1004, 4023, 25, 3) else (bif Nat.blt y 16 then (false, 4063, 1004, 4062, 33, 4) else (false, 4067, 1004, 4066, 34, 2)))))) else (bif Nat.blt y 25 then (bif Nat.blt y 21 then (bif Nat.blt y 19 then (bif Nat.blt y 18 then (false, 4071, 1004, 4070, 35, 1) else (false, 4076, 1004, 4075, 36, 3)) else (bif Nat.blt y 20 then (false, 4085, 1004, 4084, 37, 1) else (false, 4100, 1004, 4099, 38, 2))) else (bif Nat.blt y 23 then (bif Nat.blt y 22 then (false, 1184, 1007, 1183, 0, 0) else (false, 3018, 1007, 3016, 3017, 1)) else (bif Nat.blt y 24 then (false, 3025, 1007, 3024, 6, 1) else (false, 3175, 1007, 3173, 3174, 1)))) else (bif Nat.blt y 29 then (bif Nat.blt y 27 then (bif Nat.blt y 26 then (false, 3167, 1007, 3165, 3166, 0) else (false, 2179, 1007, 2177, 2178, 1)) else (bif Nat.blt y 28 then (false, 4163, 1007, 4161, 4162, 2) else (false, 4176, 1007, 4174, 4175, 1))) else (bif Nat.blt y 31 then (bif Nat.blt y 30 then (false, 5047, 1007, 5045, 5046, 1) else (false, 5071, 1007, 5069, 5070, 1)) else (bif Nat.blt y 32 then (false, 5076, 1007, 5075, 49, 1) else (bif Nat.blt y 33 then (false, 5102, 1007, 5100, 5101, 1) else (false, 5118, 1007, 5116, 5117, 1))))))) else (bif Nat.blt y 51 then (bif Nat.blt y 42 then (bif Nat.blt y 38 then (bif Nat.blt y 36 then (bif Nat.blt y 35 then (false, 5079, 1017, 5078, 0, 2) else (false, 5106, 1017, 5104, 5105, 1)) else (bif Nat.blt y 37 then (false, 2097, 1010, 2096, 0, 2) else (false, 2183, 1010, 2181, 2182, 1))) else (bif Nat.blt y 40 then (bif Nat.blt y 39 then (false, 2199, 1010, 2197, 2198, 4) else (false, 3223, 1010, 3221, 3222, 1)) else (bif Nat.blt y 41 then (false, 3147, 1010, 3145, 3146, 1) else (false, 4050, 1010, 4048, 4049, 1)))) else (bif Nat.blt y 46 then (bif Nat.blt y 44 then (bif Nat.blt y 43 then (false, 3227, 1010, 3225, 3226, 3) else (false, 4020, 1010, 4018, 4019, 2)) else (bif Nat.blt y 45 then (false, 2226, 1010, 2224, 2225, 2) else (false, 4103, 1014, 4102, 0, 7))) else (bif Nat.blt y 48 then (bif Nat.blt y 47 then (false, 4188, 1014, 4186, 4187, 0) else (false, 4229, 1014, 4227, 4228, 0)) else (bif Nat.blt y 49 then (false, 4233, 1014, 4231, 4232, 0) else (bif Nat.blt y 50 then (false, 4184, 1014, 4182, 4183, 1) else (false, 4158, 1014, 4156, 4157, 2)))))) else (bif Nat.blt y 59 then (bif Nat.blt y 55 then (bif Nat.blt y 53 then (bif Nat.blt y 52 then (false, 5023, 1016, 5022, 0, 5) else (false, 5059, 1016, 5057, 5058, 1)) else (bif Nat.blt y 54 then (false, 1140, 1005, 1139, 0, 0) else (false, 4200, 1005, 4198, 4199, 3))) else (bif Nat.blt y 57 then (bif Nat.blt y 56 then (false, 4204, 1005, 4203, 40, 0) else (false, 4208, 1005, 4207, 41, 1)) else (bif Nat.blt y 58 then (false, 4221, 1005, 4220, 44, 2) else (false, 4239, 1005, 4238, 46, 1)))) else (bif Nat.blt y 63 then (bif Nat.blt y 61 then (bif Nat.blt y 60 then (false, 5004, 1005, 5003, 47, 2) else (false, 4225, 1005, 4224, 45, 2)) else (bif Nat.blt y 62 then (false, 4213, 1005, 4212, 42, 0) else (false, 4217, 1005, 4216, 43, 1))) else (bif Nat.blt y 65 then (bif Nat.blt y 64 then (false, 1047, 1003, 1046, 0, 0) else (false, 3191, 1003, 3189, 3190, 2)) else (bif Nat.blt y 66 then (false, 3195, 1003, 3194, 15, 1) else (bif Nat.blt y 67 then (false, 3199, 1003, 3198, 16, 1) else (false, 3215, 1003, 3214, 19, 1)))))))) else (bif Nat.blt y 102 then (bif Nat.blt y 85 then (bif Nat.blt y 76 then (bif Nat.blt y 72 then (bif Nat.blt y 70 then (bif Nat.blt y 69 then (false, 3203, 1003, 3202, 17, 1) else (false, 3219, 1003, 3218, 20, 1)) else (bif Nat.blt y 71 then (false, 3211, 1003, 3210, 18, 4) else (true, 3206, 1003, 3205, 0, 1))) else (bif Nat.blt y 74 then (bif Nat.blt y 73 then (true, 3231, 1003, 3230, 0, 2) else (false, 4003, 1003, 4001, 4002, 1)) else (bif Nat.blt y 75 then (false, 4081, 1003, 4079, 4080, 1) else (false, 4092, 1003, 4090, 4091, 2)))) else (bif Nat.blt y 80 then (bif Nat.blt y 78 then (bif Nat.blt y 77 then (false, 1174, 1006, 1173, 0, 0) else (false, 3014, 1006, 3012, 3013, 0)) else (bif Nat.blt y 79 then (false, 5126, 1006, 5124, 5125, 0) else (false, 2222, 1006, 2220, 2221, 3))) else (bif Nat.blt y 82 then (bif Nat.blt y 81 then (false, 2218, 1006, 2216, 2217, 0) else (false, 2175, 1006, 2173, 2174, 1)) else (bif Nat.blt y 83 then (false, 5152, 1006, 5150, 5151, 0) else (bif Nat.blt y 84 then (false, 3030, 1012, 3029, 0, 4) else (false, 3080, 1012, 3079, 0, 2)))))) else (bif Nat.blt y 93 then (bif Nat.blt y 89 then (bif Nat.blt y 87 then (bif Nat.blt y 86 then (false, 3077, 1012, 3075, 3076, 0) else (false, 3092, 1012, 3090, 3091, 0)) else (bif Nat.blt y 88 then (false, 3179, 1012, 3177, 3178, 1) else (false, 3088, 1012, 3086, 3087, 1))) else (bif Nat.blt y 91 then (bif Nat.blt y 90 then (false, 3143, 1012, 3141, 3142, 0) else (false, 3063, 1012, 3061, 3062, 2)) else (bif Nat.blt y 92 then (false, 3067, 1012, 3066, 7, 2) else (false, 3104, 1012, 3102, 3103, 1)))) else (bif Nat.blt y 97 then (bif Nat.blt y 95 then (bif Nat.blt y 94 then (false, 3112, 1012, 3111, 9, 1) else (false, 3119, 1012, 3118, 10, 1)) else (bif Nat.blt y 96 then (false, 3123, 1012, 3121, 3122, 1) else (false, 3127, 1012, 3126, 11, 1))) else (bif Nat.blt y 99 then (bif Nat.blt y 98 then (false, 3131, 1012, 3129, 3130, 1) else (false, 3152, 1012, 3151, 14, 1)) else (bif Nat.blt y 100 then (false, 3135, 1012, 3134, 12, 1) else (bif Nat.blt y 101 then (false, 3139, 1012, 3138, 13, 1) else (false, 1032, 1002, 1031, 0, 0))))))) else (bif Nat.blt y 119 then (bif Nat.blt y 110 then (bif Nat.blt y 106 then (bif Nat.blt y 104 then (bif Nat.blt y 103 then (false, 3096, 1002, 3094, 3095, 0) else (false, 3108, 1002, 3106, 3107, 1)) else (bif Nat.blt y 105 then (false, 5142, 1002, 5140, 5141, 1) else (false, 1022, 1001, 1021, 0, 0))) else (bif Nat.blt y 108 then (bif Nat.blt y 107 then (false, 2066, 1001, 2064, 2065, 1) else (false, 2081, 1001, 2079, 2080, 2)) else (bif Nat.blt y 109 then (false, 2167, 1001, 2165, 2166, 3) else (false, 2187, 1001, 2185, 2186, 3)))) else (bif Nat.blt y 114 then (bif Nat.blt y 112 then (bif Nat.blt y 111 then (false, 2191, 1001, 2189, 2190, 4) else (false, 2195, 1001, 2193, 2194, 5)) else (bif Nat.blt y 113 then (false, 2203, 1001, 2201, 2202, 3) else (false, 2207, 1001, 2205, 2206, 5))) else (bif Nat.blt y 116 then (bif Nat.blt y 115 then (false, 2211, 1001, 2209, 2210, 4) else (false, 2232, 1001, 2230, 2231, 2)) else (bif Nat.blt y 117 then (false, 2239, 1001, 2237, 2238, 3) else (bif Nat.blt y 118 then (false, 3003, 1001, 3001, 3002, 2) else (false, 3007, 1001, 3005, 3006, 4)))))) else (bif Nat.blt y 127 then (bif Nat.blt y 123 then (bif Nat.blt y 121 then (bif Nat.blt y 120 then (false, 3059, 1001, 3057, 3058, 1) else (false, 3073, 1001, 3071, 3072, 2)) else (bif Nat.blt y 122 then (false, 3084, 1001, 3082, 3083, 2) else (false, 3158, 1001, 3156, 3157, 2))) else (bif Nat.blt y 125 then (bif Nat.blt y 124 then (false, 3163, 1001, 3161, 3162, 2) else (false, 3171, 1001, 3169, 3170, 2)) else (bif Nat.blt y 126 then (false, 3183, 1001, 3181, 3182, 2) else (false, 3187, 1001, 3185, 3186, 3)))) else (bif Nat.blt y 131 then (bif Nat.blt y 129 then (bif Nat.blt y 128 then (false, 4168, 1001, 4166, 4167, 1) else (false, 4180, 1001, 4178, 4179, 2)) else (bif Nat.blt y 130 then (false, 4192, 1001, 4190, 4191, 3) else (false, 4196, 1001, 4194, 4195, 1))) else (bif Nat.blt y 133 then (bif Nat.blt y 132 then (false, 5051, 1001, 5049, 5050, 2) else (false, 5063, 1001, 5061, 5062, 2)) else (bif Nat.blt y 134 then (false, 5067, 1001, 5065, 5066, 0) else (bif Nat.blt y 135 then (false, 5094, 1001, 5092, 5093, 1) else (false, 5098, 1001, 5096, 5097, 1))))))))) else (bif Nat.blt y 204 then (bif Nat.blt y 170 then (bif Nat.blt y 153 then (bif Nat.blt y 144 then (bif Nat.blt y 140 then (bif Nat.blt y 138 then (bif Nat.blt y 137 then (false, 5114, 1001, 5112, 5113, 1) else (false, 5122, 1001, 5120, 5121, 0)) else (bif Nat.blt y 139 then (false, 5130, 1001, 5128, 5129, 0) else (false, 5134, 1001, 5132, 5133, 3))) else (bif Nat.blt y 142 then (bif Nat.blt y 141 then (false, 5138, 1001, 5136, 5137, 1) else (false, 5148, 1001, 5146, 5147, 1)) else (bif Nat.blt y 143 then (false, 2073, 1001, 2072, 0, 1) else (false, 2092, 1001, 2091, 3, 1)))) else (bif Nat.blt y 148 then (bif Nat.blt y 146 then (bif Nat.blt y 145 then (false, 2077, 1001, 2076, 1, 1) else (false, 2163, 1001, 2162, 4, 1)) else (bif Nat.blt y 147 then (false, 2171, 1001, 2170, 5, 2) else (false, 3100, 1001, 3099, 8, 2))) else (bif Nat.blt y 150 then (bif Nat.blt y 149 then (false, 2088, 1001, 2087, 2, 0) else (false, 4172, 1001, 4171, 39, 1)) else (bif Nat.blt y 151 then (false, 5055, 1001, 5054, 48, 1) else (bif Nat.blt y 152 then (true, 2084, 1001, 2083, 0, 1) else (true, 2235, 1001, 2234, 0, 1)))))) else (bif Nat.blt y 161 then (bif Nat.blt y 157 then (bif Nat.blt y 155 then (bif Nat.blt y 154 then (true, 3010, 1001, 3009, 0, 1) else (true, 2214, 1001, 2213, 0, 1)) else (bif Nat.blt y 156 then (true, 2069, 1001, 2068, 0, 3) else (false, 5158, 1009, 5157, 0, 0))) else (bif Nat.blt y 159 then (bif Nat.blt y 158 then (true, 6077, 1009, 6076, 0, 3) else (false, 6085, 1009, 6084, 51, 1)) else (bif Nat.blt y 160 then (false, 6081, 1009, 6080, 50, 1) else (false, 6105, 1009, 6104, 54, 1)))) else (bif Nat.blt y 165 then (bif Nat.blt y 163 then (bif Nat.blt y 162 then (false, 6101, 1009, 6100, 53, 0) else (false, 6126, 1009, 6125, 58, 0)) else (bif Nat.blt y 164 then (false, 6097, 1009, 6096, 52, 1) else (true, 6092, 1009, 6091, 0, 1))) else (bif Nat.blt y 167 then (bif Nat.blt y 166 then (false, 6074, 1009, 6072, 6073, 1) else (false, 6199, 1009, 6198, 62, 3)) else (bif Nat.blt y 168 then (false, 6195, 1009, 6194, 61, 0) else (bif Nat.blt y 169 then (false, 6109, 1009, 6108, 55, 0) else (true, 6205, 1009, 6204, 0, 3))))))) else (bif Nat.blt y 187 then (bif Nat.blt y 178 then (bif Nat.blt y 174 then (bif Nat.blt y 172 then (bif Nat.blt y 171 then (true, 6202, 1009, 6201, 0, 3) else (true, 7008, 1009, 7007, 0, 2)) else (bif Nat.blt y 173 then (true, 6217, 1009, 6216, 0, 1) else (true, 6220, 1009, 6219, 0, 1))) else (bif Nat.blt y 176 then (bif Nat.blt y 175 then (true, 6235, 1009, 6234, 0, 1) else (true, 7031, 1009, 7030, 0, 1)) else (bif Nat.blt y 177 then (true, 7063, 1009, 7062, 0, 2) else (true, 6229, 1009, 6228, 0, 1)))) else (bif Nat.blt y 182 then (bif Nat.blt y 180 then (bif Nat.blt y 179 then (true, 6232, 1009, 6231, 0, 1) else (true, 6226, 1009, 6225, 0, 1)) else (bif Nat.blt y 181 then (true, 7001, 1009, 7000, 0, 1) else (true, 7016, 1009, 7015, 0, 1))) else (bif Nat.blt y 184 then (bif Nat.blt y 183 then (true, 6167, 1009, 6166, 0, 3) else (true, 6223, 1009, 6222, 0, 1)) else (bif Nat.blt y 185 then (true, 6238, 1009, 6237, 0, 1) else (bif Nat.blt y 186 then (false, 6214, 1009, 6213, 63, 1) else (false, 6122, 1009, 6121, 57, 1)))))) else (bif Nat.blt y 195 then (bif Nat.blt y 191 then (bif Nat.blt y 189 then (bif Nat.blt y 188 then (false, 7051, 1009, 7050, 71, 1) else (false, 7131, 1009, 7130, 83, 1)) else (bif Nat.blt y 190 then (false, 7024, 1009, 7023, 65, 1) else (false, 7035, 1009, 7034, 67, 1))) else (bif Nat.blt y 193 then (bif Nat.blt y 192 then (false, 7028, 1009, 7027, 66, 1) else (false, 7020, 1009, 7019, 64, 1)) else (bif Nat.blt y 194 then (false, 7039, 1009, 7038, 68, 1) else (false, 7047, 1009, 7046, 70, 1)))) else (bif Nat.blt y 199 then (bif Nat.blt y 197 then (bif Nat.blt y 196 then (false, 7043, 1009, 7042, 69, 1) else (false, 6089, 1009, 6087, 6088, 2)) else (bif Nat.blt y 198 then (false, 6118, 1009, 6117, 56, 1) else (false, 6131, 1009, 6130, 59, 1))) else (bif Nat.blt y 201 then (bif Nat.blt y 200 then (false, 6113, 1009, 6111, 6112, 3) else (false, 6135, 1009, 6133, 6134, 3)) else (bif Nat.blt y 202 then (false, 6139, 1009, 6137, 6138, 4) else (bif Nat.blt y 203 then (false, 6145, 1009, 6143, 6144, 5) else (false, 6150, 1009, 6148, 6149, 3)))))))) else (bif Nat.blt y 238 then (bif Nat.blt y 221 then (bif Nat.blt y 212 then (bif Nat.blt y 208 then (bif Nat.blt y 206 then (bif Nat.blt y 205 then (false, 6154, 1009, 6152, 6153, 5) else (false, 6164, 1009, 6163, 60, 3)) else (bif Nat.blt y 207 then (false, 6158, 1009, 6156, 6157, 4) else (true, 6174, 1009, 6173, 0, 1))) else (bif Nat.blt y 210 then (bif Nat.blt y 209 then (false, 6171, 1009, 6169, 6170, 2) else (false, 6179, 1009, 6177, 6178, 3)) else (bif Nat.blt y 211 then (false, 6184, 1009, 6182, 6183, 2) else (true, 6191, 1009, 6190, 0, 1)))) else (bif Nat.blt y 216 then (bif Nat.blt y 214 then (bif Nat.blt y 213 then (false, 6188, 1009, 6186, 6187, 4) else (false, 6210, 1009, 6208, 6209, 1)) else (bif Nat.blt y 215 then (false, 7005, 1009, 7003, 7004, 2) else (false, 7012, 1009, 7010, 7011, 2))) else (bif Nat.blt y 218 then (bif Nat.blt y 217 then (false, 7055, 1009, 7054, 72, 1) else (false, 7059, 1009, 7057, 7058, 2)) else (bif Nat.blt y 219 then (false, 7068, 1009, 7066, 7067, 2) else (bif Nat.blt y 220 then (false, 7073, 1009, 7071, 7072, 2) else (false, 7077, 1009, 7075, 7076, 2)))))) else (bif Nat.blt y 229 then (bif Nat.blt y 225 then (bif Nat.blt y 223 then (bif Nat.blt y 222 then (false, 7089, 1009, 7088, 74, 2) else (true, 7107, 1009, 7106, 0, 1)) else (bif Nat.blt y 224 then (false, 7104, 1009, 7103, 77, 3) else (false, 7093, 1009, 7092, 75, 3))) else (bif Nat.blt y 227 then (bif Nat.blt y 226 then (false, 7097, 1009, 7096, 76, 2) else (false, 7085, 1009, 7084, 73, 2)) else (bif Nat.blt y 228 then (false, 7127, 1009, 7126, 82, 2) else (false, 7123, 1009, 7122, 81, 1)))) else (bif Nat.blt y 233 then (bif Nat.blt y 231 then (bif Nat.blt y 230 then (false, 7119, 1009, 7118, 80, 1) else (false, 7115, 1009, 7114, 79, 2)) else (bif Nat.blt y 232 then (false, 7139, 1009, 7138, 85, 2) else (false, 7135, 1009, 7134, 84, 3))) else (bif Nat.blt y 235 then (bif Nat.blt y 234 then (false, 7111, 1009, 7110, 78, 2) else (false, 7150, 1009, 7149, 87, 1)) else (bif Nat.blt y 236 then (false, 7146, 1009, 7145, 86, 0) else (bif Nat.blt y 237 then (false, 7162, 1009, 7161, 90, 2) else (false, 7158, 1009, 7157, 89, 3))))))) else (bif Nat.blt y 255 then (bif Nat.blt y 246 then (bif Nat.blt y 242 then (bif Nat.blt y 240 then (bif Nat.blt y 239 then (false, 7166, 1009, 7165, 91, 1) else (false, 7154, 1009, 7153, 88, 5)) else (bif Nat.blt y 241 then (false, 7081, 1009, 7079, 7080, 3) else (false, 7174, 1009, 7173, 92, 1))) else (bif Nat.blt y 244 then (bif Nat.blt y 243 then (false, 7178, 1009, 7177, 93, 1) else (false, 7170, 1009, 7168, 7169, 1)) else (bif Nat.blt y 245 then (false, 7182, 1009, 7180, 7181, 2) else (false, 7186, 1009, 7184, 7185, 3)))) else (bif Nat.blt y 250 then (bif Nat.blt y 248 then (bif Nat.blt y 247 then (false, 7198, 1009, 7197, 95, 0) else (false, 7202, 1009, 7201, 96, 1)) else (bif Nat.blt y 249 then (false, 7207, 1009, 7206, 97, 1) else (false, 7212, 1009, 7211, 98, 1))) else (bif Nat.blt y 252 then (bif Nat.blt y 251 then (false, 7194, 1009, 7193, 94, 2) else (false, 7216, 1009, 7215, 99, 2)) else (bif Nat.blt y 253 then (false, 7190, 1009, 7188, 7189, 1) else (bif Nat.blt y 254 then (false, 7224, 1009, 7223, 100, 1) else (false, 7220, 1009, 7218, 7219, 2)))))) else (bif Nat.blt y 263 then (bif Nat.blt y 259 then (bif Nat.blt y 257 then (bif Nat.blt y 256 then (false, 7228, 1009, 7226, 7227, 2) else (false, 7236, 1009, 7235, 101, 1)) else (bif Nat.blt y 258 then (false, 7232, 1009, 7230, 7231, 0) else (false, 8000, 1009, 7238, 7239, 1))) else (bif Nat.blt y 261 then (bif Nat.blt y 260 then (false, 8008, 1009, 8007, 102, 1) else (false, 8013, 1009, 8012, 103, 1)) else (bif Nat.blt y 262 then (false, 8004, 1009, 8002, 8003, 1) else (false, 8018, 1009, 8016, 8017, 1)))) else (bif Nat.blt y 267 then (bif Nat.blt y 265 then (bif Nat.blt y 264 then (false, 8022, 1009, 8020, 8021, 0) else (false, 8026, 1009, 8024, 8025, 0)) else (bif Nat.blt y 266 then (false, 8030, 1009, 8028, 8029, 3) else (false, 8034, 1009, 8032, 8033, 1))) else (bif Nat.blt y 269 then (bif Nat.blt y 268 then (false, 8038, 1009, 8036, 8037, 1) else (true, 4088, 1015, 4087, 0, 1)) else (bif Nat.blt y 270 then (true, 2003, 1008, 2002, 0, 2) else (bif Nat.blt y 271 then (true, 5009, 1008, 5008, 0, 2) else (true, 0, 0, 0, 0, 0))))))))))
def ckM (z : Nat) : Bool := match pgMt0 z with
  | (st, pc, pi, pa, ps, np) =>
    ckT pi (.initialized (pgNm0 z).cls) && plainName (pgNm0 z).cls && decide ((pgNm0 z).cls ≠ "java/lang/invoke/MethodHandle") && decide ((pgNm0 z).cls ≠ "java/lang/invoke/VarHandle") &&
    decide ((parseMethodDescriptor (pgNm0 z).desc).map (fun d => d.parameters.length) = some np) &&
    (bif st then ckT pa (.static (pgNm0 z)) else ckT pa (.instanceMethod (pgNm0 z)) && (decide ((pgNm0 z).name = "<init>" ∧ pgRt0 z = none) || (ckT ps (.selects (pgNm0 z).cls (pgNm0 z) (pgNm0 z)) && decide ((vwCl[(pgInfo0 z).2.2.2.2.2]?).map (fun q => q.1) = some (pgNm0 z).cls))))
def ckW (z : Nat) : Bool := match tbAt (pgMt0 z).2.1 with
  | some (.code n b k r) => decide (n = pgNm0 z) && eqBy b (pgBy0 z) && Nat.beq k (pgInfo0 z).1 && decide (r = pgRt0 z)
  | _ => false
theorem ckW_ok {z : Nat} (h : ckW z = true) : Cond.code (pgNm0 z) (pgBy0 z) (pgInfo0 z).1 (pgRt0 z) ∈ mTs := by
  unfold ckW at h
  split at h
  · next n b k r hw =>
    simp only [Bool.and_eq_true, decide_eq_true_eq, Nat.beq_eq] at h
    obtain ⟨⟨⟨h1, h2⟩, h3⟩, h4⟩ := h
    rw [← h1, ← eqBy_ok h2, ← h3, ← h4]
    exact List.mem_filter.mpr ⟨tbAt_in hw, rfl⟩
  · cases h
/-- what every method's numbers hold -/
def ckR (z : Nat) : Bool := decide ((pgNm0 z).cls = pgOn (pgOw0 z)) && plainName (pgNm0 z).cls && (bif (pgInfo0 z).2.2.2.2.1 then decide ((pgNm0 z).name = "<init>") && decide ((vwCl[(pgInfo0 z).2.2.2.2.2]?).map (fun q => q.1) = some (pgNm0 z).cls) else true) &&
  (match (pgInfo0 z).2.2.2.1, pgRt0 z with
    | 0, none => true
    | 1, some .int => true
    | 2, some .long => true
    | 3, some (.object _) => true
    | 3, some (.array _) => true
    | 4, some .boolean => true
    | _, _ => false)
set_option maxRecDepth 100000 in
theorem ckM_0 : (List.range' 0 34).all ckM = true := by decide +kernel
set_option maxRecDepth 100000 in
theorem ckM_1 : (List.range' 34 34).all ckM = true := by decide +kernel
set_option maxRecDepth 100000 in
theorem ckM_2 : (List.range' 68 34).all ckM = true := by decide +kernel
set_option maxRecDepth 100000 in
theorem ckM_3 : (List.range' 102 34).all ckM = true := by decide +kernel
set_option maxRecDepth 100000 in
theorem ckM_4 : (List.range' 136 34).all ckM = true := by decide +kernel
set_option maxRecDepth 100000 in
theorem ckM_5 : (List.range' 170 34).all ckM = true := by decide +kernel
set_option maxRecDepth 100000 in
theorem ckM_6 : (List.range' 204 34).all ckM = true := by decide +kernel
set_option maxRecDepth 100000 in
theorem ckM_7 : (List.range' 238 33).all ckM = true := by decide +kernel
set_option maxRecDepth 100000 in
theorem ckW_0 : (List.range' 0 34).all ckW = true := by decide +kernel
set_option maxRecDepth 100000 in
theorem ckW_1 : (List.range' 34 34).all ckW = true := by decide +kernel
set_option maxRecDepth 100000 in
theorem ckW_2 : (List.range' 68 34).all ckW = true := by decide +kernel
set_option maxRecDepth 100000 in
theorem ckW_3 : (List.range' 102 34).all ckW = true := by decide +kernel
set_option maxRecDepth 100000 in
theorem ckW_4 : (List.range' 136 34).all ckW = true := by decide +kernel
set_option maxRecDepth 100000 in
theorem ckW_5 : (List.range' 170 34).all ckW = true := by decide +kernel
set_option maxRecDepth 100000 in
theorem ckW_6 : (List.range' 204 34).all ckW = true := by decide +kernel
set_option maxRecDepth 100000 in
theorem ckW_7 : (List.range' 238 33).all ckW = true := by decide +kernel
theorem ckW_all (z : Nat) (hz : z < 271) : Cond.code (pgNm0 z) (pgBy0 z) (pgInfo0 z).1 (pgRt0 z) ∈ mTs := by
  apply ckW_ok
  by_cases h0 : z < 34
  · exact List.all_eq_true.mp ckW_0 z (List.mem_range'_1.mpr ⟨by omega, by omega⟩)
  by_cases h1 : z < 68
  · exact List.all_eq_true.mp ckW_1 z (List.mem_range'_1.mpr ⟨by omega, by omega⟩)
  by_cases h2 : z < 102
  · exact List.all_eq_true.mp ckW_2 z (List.mem_range'_1.mpr ⟨by omega, by omega⟩)
  by_cases h3 : z < 136
  · exact List.all_eq_true.mp ckW_3 z (List.mem_range'_1.mpr ⟨by omega, by omega⟩)
  by_cases h4 : z < 170
  · exact List.all_eq_true.mp ckW_4 z (List.mem_range'_1.mpr ⟨by omega, by omega⟩)
  by_cases h5 : z < 204
  · exact List.all_eq_true.mp ckW_5 z (List.mem_range'_1.mpr ⟨by omega, by omega⟩)
  by_cases h6 : z < 238
  · exact List.all_eq_true.mp ckW_6 z (List.mem_range'_1.mpr ⟨by omega, by omega⟩)
  by_cases h7 : z < 271
  · exact List.all_eq_true.mp ckW_7 z (List.mem_range'_1.mpr ⟨by omega, by omega⟩)
  omega
theorem ckM_all (z : Nat) (hz : z < 271) : ckM z = true := by
  by_cases h0 : z < 34
  · exact List.all_eq_true.mp ckM_0 z (List.mem_range'_1.mpr ⟨by omega, by omega⟩)
  by_cases h1 : z < 68
  · exact List.all_eq_true.mp ckM_1 z (List.mem_range'_1.mpr ⟨by omega, by omega⟩)
  by_cases h2 : z < 102
  · exact List.all_eq_true.mp ckM_2 z (List.mem_range'_1.mpr ⟨by omega, by omega⟩)
  by_cases h3 : z < 136
  · exact List.all_eq_true.mp ckM_3 z (List.mem_range'_1.mpr ⟨by omega, by omega⟩)
  by_cases h4 : z < 170
  · exact List.all_eq_true.mp ckM_4 z (List.mem_range'_1.mpr ⟨by omega, by omega⟩)
  by_cases h5 : z < 204
  · exact List.all_eq_true.mp ckM_5 z (List.mem_range'_1.mpr ⟨by omega, by omega⟩)
  by_cases h6 : z < 238
  · exact List.all_eq_true.mp ckM_6 z (List.mem_range'_1.mpr ⟨by omega, by omega⟩)
  by_cases h7 : z < 271
  · exact List.all_eq_true.mp ckM_7 z (List.mem_range'_1.mpr ⟨by omega, by omega⟩)
  omega
set_option maxRecDepth 100000 in
theorem ckR_0 : (List.range 272).all ckR = true := by decide +kernel
theorem ckR_all (z : Nat) (hz : z < 272) : ckR z = true := List.all_eq_true.mp ckR_0 z (List.mem_range.mpr hz)
