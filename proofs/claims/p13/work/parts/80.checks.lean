/-! the tables hold: by the kernel -/
def ckDec (b : ByteArray) (pc : Nat) (ins : Instr) : Bool := match decode b pc with
  | .ok q => decide (q.1 = ins) && (Nat.beq (mLen ins) 0 || Nat.beq q.2 (mLen ins))
  | _ => false
theorem ckDec_ok {b : ByteArray} {pc : Nat} {ins : Instr} (h : ckDec b pc ins = true) : mDec b pc ins := by
  unfold ckDec at h
  split at h
  · next q hq =>
    simp only [Bool.and_eq_true, decide_eq_true_eq, Bool.or_eq_true, Nat.beq_eq] at h
    refine ⟨q.2, ?_, ?_⟩
    · rw [hq, ← h.1]
    · rcases h.2 with h2 | h2
      · exact Or.inl h2
      · exact Or.inr h2
  · cases h
def ckAt (z pc : Nat) : Bool := match (pgK0 z).2 pc with
  | none => true
  | some ins => ckDec (pgBy0 z) pc ins
def ckCode (z : Nat) : Bool := (List.range (pgK0 z).1).all (ckAt z)
theorem pgC_lt (y : Nat) : pgC y < 272 := by
  unfold pgC
  cases h : Nat.blt y 272 with
  | true => simp [Nat.blt] at h; simp; omega
  | false => simp
set_option maxRecDepth 100000 in
theorem ckCode_0 : (List.range' 0 4).all ckCode = true := by decide +kernel
set_option maxRecDepth 100000 in
theorem ckCode_1 : (List.range' 4 4).all ckCode = true := by decide +kernel
set_option maxRecDepth 100000 in
theorem ckCode_2 : (List.range' 8 7).all ckCode = true := by decide +kernel
set_option maxRecDepth 100000 in
theorem ckCode_3 : (List.range' 15 2).all ckCode = true := by decide +kernel
set_option maxRecDepth 100000 in
theorem ckCode_4 : (List.range' 17 5).all ckCode = true := by decide +kernel
set_option maxRecDepth 100000 in
theorem ckCode_5 : (List.range' 22 6).all ckCode = true := by decide +kernel
set_option maxRecDepth 100000 in
theorem ckCode_6 : (List.range' 28 7).all ckCode = true := by decide +kernel
set_option maxRecDepth 100000 in
theorem ckCode_7 : (List.range' 35 7).all ckCode = true := by decide +kernel
set_option maxRecDepth 100000 in
theorem ckCode_8 : (List.range' 42 7).all ckCode = true := by decide +kernel
set_option maxRecDepth 100000 in
theorem ckCode_9 : (List.range' 49 6).all ckCode = true := by decide +kernel
set_option maxRecDepth 100000 in
theorem ckCode_10 : (List.range' 55 3).all ckCode = true := by decide +kernel
set_option maxRecDepth 100000 in
theorem ckCode_11 : (List.range' 58 4).all ckCode = true := by decide +kernel
set_option maxRecDepth 100000 in
theorem ckCode_12 : (List.range' 62 5).all ckCode = true := by decide +kernel
set_option maxRecDepth 100000 in
theorem ckCode_13 : (List.range' 67 8).all ckCode = true := by decide +kernel
set_option maxRecDepth 100000 in
theorem ckCode_14 : (List.range' 75 11).all ckCode = true := by decide +kernel
set_option maxRecDepth 100000 in
theorem ckCode_15 : (List.range' 86 9).all ckCode = true := by decide +kernel
set_option maxRecDepth 100000 in
theorem ckCode_16 : (List.range' 95 11).all ckCode = true := by decide +kernel
set_option maxRecDepth 100000 in
theorem ckCode_17 : (List.range' 106 4).all ckCode = true := by decide +kernel
set_option maxRecDepth 100000 in
theorem ckCode_18 : (List.range' 110 3).all ckCode = true := by decide +kernel
set_option maxRecDepth 100000 in
theorem ckCode_19 : (List.range' 113 3).all ckCode = true := by decide +kernel
set_option maxRecDepth 100000 in
theorem ckCode_20 : (List.range' 116 3).all ckCode = true := by decide +kernel
set_option maxRecDepth 100000 in
theorem ckCode_21 : (List.range' 119 3).all ckCode = true := by decide +kernel
set_option maxRecDepth 100000 in
theorem ckCode_22 : (List.range' 122 3).all ckCode = true := by decide +kernel
set_option maxRecDepth 100000 in
theorem ckCode_23 : (List.range' 125 4).all ckCode = true := by decide +kernel
set_option maxRecDepth 100000 in
theorem ckCode_24 : (List.range' 129 6).all ckCode = true := by decide +kernel
set_option maxRecDepth 100000 in
theorem ckCode_25 : (List.range' 135 12).all ckCode = true := by decide +kernel
set_option maxRecDepth 100000 in
theorem ckCode_26 : (List.range' 147 9).all ckCode = true := by decide +kernel
set_option maxRecDepth 100000 in
theorem ckCode_27 : (List.range' 156 1).all ckCode = true := by decide +kernel
set_option maxRecDepth 100000 in
theorem ckCode_28 : (List.range' 157 14).all ckCode = true := by decide +kernel
set_option maxRecDepth 100000 in
theorem ckCode_29 : (List.range' 171 15).all ckCode = true := by decide +kernel
set_option maxRecDepth 100000 in
theorem ckCode_30 : (List.range' 186 6).all ckCode = true := by decide +kernel
set_option maxRecDepth 100000 in
theorem ckCode_31 : (List.range' 192 4).all ckCode = true := by decide +kernel
set_option maxRecDepth 100000 in
theorem ckCode_32 : (List.range' 196 4).all ckCode = true := by decide +kernel
set_option maxRecDepth 100000 in
theorem ckCode_33 : (List.range' 200 2).all ckCode = true := by decide +kernel
set_option maxRecDepth 100000 in
theorem ckCode_34 : (List.range' 202 2).all ckCode = true := by decide +kernel
set_option maxRecDepth 100000 in
theorem ckCode_35 : (List.range' 204 4).all ckCode = true := by decide +kernel
set_option maxRecDepth 100000 in
theorem ckCode_36 : (List.range' 208 4).all ckCode = true := by decide +kernel
set_option maxRecDepth 100000 in
theorem ckCode_37 : (List.range' 212 2).all ckCode = true := by decide +kernel
set_option maxRecDepth 100000 in
theorem ckCode_38 : (List.range' 214 2).all ckCode = true := by decide +kernel
set_option maxRecDepth 100000 in
theorem ckCode_39 : (List.range' 216 3).all ckCode = true := by decide +kernel
set_option maxRecDepth 100000 in
theorem ckCode_40 : (List.range' 219 2).all ckCode = true := by decide +kernel
set_option maxRecDepth 100000 in
theorem ckCode_41 : (List.range' 221 5).all ckCode = true := by decide +kernel
set_option maxRecDepth 100000 in
theorem ckCode_42 : (List.range' 226 1).all ckCode = true := by decide +kernel
set_option maxRecDepth 100000 in
theorem ckCode_43 : (List.range' 227 3).all ckCode = true := by decide +kernel
set_option maxRecDepth 100000 in
theorem ckCode_44 : (List.range' 230 3).all ckCode = true := by decide +kernel
set_option maxRecDepth 100000 in
theorem ckCode_45 : (List.range' 233 2).all ckCode = true := by decide +kernel
set_option maxRecDepth 100000 in
theorem ckCode_46 : (List.range' 235 2).all ckCode = true := by decide +kernel
set_option maxRecDepth 100000 in
theorem ckCode_47 : (List.range' 237 2).all ckCode = true := by decide +kernel
set_option maxRecDepth 100000 in
theorem ckCode_48 : (List.range' 239 1).all ckCode = true := by decide +kernel
set_option maxRecDepth 100000 in
theorem ckCode_49 : (List.range' 240 3).all ckCode = true := by decide +kernel
set_option maxRecDepth 100000 in
theorem ckCode_50 : (List.range' 243 4).all ckCode = true := by decide +kernel
set_option maxRecDepth 100000 in
theorem ckCode_51 : (List.range' 247 3).all ckCode = true := by decide +kernel
set_option maxRecDepth 100000 in
theorem ckCode_52 : (List.range' 250 1).all ckCode = true := by decide +kernel
set_option maxRecDepth 100000 in
theorem ckCode_53 : (List.range' 251 1).all ckCode = true := by decide +kernel
set_option maxRecDepth 100000 in
theorem ckCode_54 : (List.range' 252 3).all ckCode = true := by decide +kernel
set_option maxRecDepth 100000 in
theorem ckCode_55 : (List.range' 255 2).all ckCode = true := by decide +kernel
set_option maxRecDepth 100000 in
theorem ckCode_56 : (List.range' 257 2).all ckCode = true := by decide +kernel
set_option maxRecDepth 100000 in
theorem ckCode_57 : (List.range' 259 3).all ckCode = true := by decide +kernel
set_option maxRecDepth 100000 in
theorem ckCode_58 : (List.range' 262 4).all ckCode = true := by decide +kernel
set_option maxRecDepth 100000 in
theorem ckCode_59 : (List.range' 266 5).all ckCode = true := by decide +kernel
theorem ckCode_most (z : Nat) (hz : z < 271) : ckCode z = true := by
  by_cases h0 : z < 4
  · exact List.all_eq_true.mp ckCode_0 z (List.mem_range'_1.mpr ⟨by omega, by omega⟩)
  by_cases h1 : z < 8
  · exact List.all_eq_true.mp ckCode_1 z (List.mem_range'_1.mpr ⟨by omega, by omega⟩)
  by_cases h2 : z < 15
  · exact List.all_eq_true.mp ckCode_2 z (List.mem_range'_1.mpr ⟨by omega, by omega⟩)
  by_cases h3 : z < 17
  · exact List.all_eq_true.mp ckCode_3 z (List.mem_range'_1.mpr ⟨by omega, by omega⟩)
  by_cases h4 : z < 22
  · exact List.all_eq_true.mp ckCode_4 z (List.mem_range'_1.mpr ⟨by omega, by omega⟩)
  by_cases h5 : z < 28
  · exact List.all_eq_true.mp ckCode_5 z (List.mem_range'_1.mpr ⟨by omega, by omega⟩)
  by_cases h6 : z < 35
  · exact List.all_eq_true.mp ckCode_6 z (List.mem_range'_1.mpr ⟨by omega, by omega⟩)
  by_cases h7 : z < 42
  · exact List.all_eq_true.mp ckCode_7 z (List.mem_range'_1.mpr ⟨by omega, by omega⟩)
  by_cases h8 : z < 49
  · exact List.all_eq_true.mp ckCode_8 z (List.mem_range'_1.mpr ⟨by omega, by omega⟩)
  by_cases h9 : z < 55
  · exact List.all_eq_true.mp ckCode_9 z (List.mem_range'_1.mpr ⟨by omega, by omega⟩)
  by_cases h10 : z < 58
  · exact List.all_eq_true.mp ckCode_10 z (List.mem_range'_1.mpr ⟨by omega, by omega⟩)
  by_cases h11 : z < 62
  · exact List.all_eq_true.mp ckCode_11 z (List.mem_range'_1.mpr ⟨by omega, by omega⟩)
  by_cases h12 : z < 67
  · exact List.all_eq_true.mp ckCode_12 z (List.mem_range'_1.mpr ⟨by omega, by omega⟩)
  by_cases h13 : z < 75
  · exact List.all_eq_true.mp ckCode_13 z (List.mem_range'_1.mpr ⟨by omega, by omega⟩)
  by_cases h14 : z < 86
  · exact List.all_eq_true.mp ckCode_14 z (List.mem_range'_1.mpr ⟨by omega, by omega⟩)
  by_cases h15 : z < 95
  · exact List.all_eq_true.mp ckCode_15 z (List.mem_range'_1.mpr ⟨by omega, by omega⟩)
  by_cases h16 : z < 106
  · exact List.all_eq_true.mp ckCode_16 z (List.mem_range'_1.mpr ⟨by omega, by omega⟩)
  by_cases h17 : z < 110
  · exact List.all_eq_true.mp ckCode_17 z (List.mem_range'_1.mpr ⟨by omega, by omega⟩)
  by_cases h18 : z < 113
  · exact List.all_eq_true.mp ckCode_18 z (List.mem_range'_1.mpr ⟨by omega, by omega⟩)
  by_cases h19 : z < 116
  · exact List.all_eq_true.mp ckCode_19 z (List.mem_range'_1.mpr ⟨by omega, by omega⟩)
  by_cases h20 : z < 119
  · exact List.all_eq_true.mp ckCode_20 z (List.mem_range'_1.mpr ⟨by omega, by omega⟩)
  by_cases h21 : z < 122
  · exact List.all_eq_true.mp ckCode_21 z (List.mem_range'_1.mpr ⟨by omega, by omega⟩)
  by_cases h22 : z < 125
  · exact List.all_eq_true.mp ckCode_22 z (List.mem_range'_1.mpr ⟨by omega, by omega⟩)
  by_cases h23 : z < 129
  · exact List.all_eq_true.mp ckCode_23 z (List.mem_range'_1.mpr ⟨by omega, by omega⟩)
  by_cases h24 : z < 135
  · exact List.all_eq_true.mp ckCode_24 z (List.mem_range'_1.mpr ⟨by omega, by omega⟩)
  by_cases h25 : z < 147
  · exact List.all_eq_true.mp ckCode_25 z (List.mem_range'_1.mpr ⟨by omega, by omega⟩)
  by_cases h26 : z < 156
  · exact List.all_eq_true.mp ckCode_26 z (List.mem_range'_1.mpr ⟨by omega, by omega⟩)
  by_cases h27 : z < 157
  · exact List.all_eq_true.mp ckCode_27 z (List.mem_range'_1.mpr ⟨by omega, by omega⟩)
  by_cases h28 : z < 171
  · exact List.all_eq_true.mp ckCode_28 z (List.mem_range'_1.mpr ⟨by omega, by omega⟩)
  by_cases h29 : z < 186
  · exact List.all_eq_true.mp ckCode_29 z (List.mem_range'_1.mpr ⟨by omega, by omega⟩)
  by_cases h30 : z < 192
  · exact List.all_eq_true.mp ckCode_30 z (List.mem_range'_1.mpr ⟨by omega, by omega⟩)
  by_cases h31 : z < 196
  · exact List.all_eq_true.mp ckCode_31 z (List.mem_range'_1.mpr ⟨by omega, by omega⟩)
  by_cases h32 : z < 200
  · exact List.all_eq_true.mp ckCode_32 z (List.mem_range'_1.mpr ⟨by omega, by omega⟩)
  by_cases h33 : z < 202
  · exact List.all_eq_true.mp ckCode_33 z (List.mem_range'_1.mpr ⟨by omega, by omega⟩)
  by_cases h34 : z < 204
  · exact List.all_eq_true.mp ckCode_34 z (List.mem_range'_1.mpr ⟨by omega, by omega⟩)
  by_cases h35 : z < 208
  · exact List.all_eq_true.mp ckCode_35 z (List.mem_range'_1.mpr ⟨by omega, by omega⟩)
  by_cases h36 : z < 212
  · exact List.all_eq_true.mp ckCode_36 z (List.mem_range'_1.mpr ⟨by omega, by omega⟩)
  by_cases h37 : z < 214
  · exact List.all_eq_true.mp ckCode_37 z (List.mem_range'_1.mpr ⟨by omega, by omega⟩)
  by_cases h38 : z < 216
  · exact List.all_eq_true.mp ckCode_38 z (List.mem_range'_1.mpr ⟨by omega, by omega⟩)
  by_cases h39 : z < 219
  · exact List.all_eq_true.mp ckCode_39 z (List.mem_range'_1.mpr ⟨by omega, by omega⟩)
  by_cases h40 : z < 221
  · exact List.all_eq_true.mp ckCode_40 z (List.mem_range'_1.mpr ⟨by omega, by omega⟩)
  by_cases h41 : z < 226
  · exact List.all_eq_true.mp ckCode_41 z (List.mem_range'_1.mpr ⟨by omega, by omega⟩)
  by_cases h42 : z < 227
  · exact List.all_eq_true.mp ckCode_42 z (List.mem_range'_1.mpr ⟨by omega, by omega⟩)
  by_cases h43 : z < 230
  · exact List.all_eq_true.mp ckCode_43 z (List.mem_range'_1.mpr ⟨by omega, by omega⟩)
  by_cases h44 : z < 233
  · exact List.all_eq_true.mp ckCode_44 z (List.mem_range'_1.mpr ⟨by omega, by omega⟩)
  by_cases h45 : z < 235
  · exact List.all_eq_true.mp ckCode_45 z (List.mem_range'_1.mpr ⟨by omega, by omega⟩)
  by_cases h46 : z < 237
  · exact List.all_eq_true.mp ckCode_46 z (List.mem_range'_1.mpr ⟨by omega, by omega⟩)
  by_cases h47 : z < 239
  · exact List.all_eq_true.mp ckCode_47 z (List.mem_range'_1.mpr ⟨by omega, by omega⟩)
  by_cases h48 : z < 240
  · exact List.all_eq_true.mp ckCode_48 z (List.mem_range'_1.mpr ⟨by omega, by omega⟩)
  by_cases h49 : z < 243
  · exact List.all_eq_true.mp ckCode_49 z (List.mem_range'_1.mpr ⟨by omega, by omega⟩)
  by_cases h50 : z < 247
  · exact List.all_eq_true.mp ckCode_50 z (List.mem_range'_1.mpr ⟨by omega, by omega⟩)
  by_cases h51 : z < 250
  · exact List.all_eq_true.mp ckCode_51 z (List.mem_range'_1.mpr ⟨by omega, by omega⟩)
  by_cases h52 : z < 251
  · exact List.all_eq_true.mp ckCode_52 z (List.mem_range'_1.mpr ⟨by omega, by omega⟩)
  by_cases h53 : z < 252
  · exact List.all_eq_true.mp ckCode_53 z (List.mem_range'_1.mpr ⟨by omega, by omega⟩)
  by_cases h54 : z < 255
  · exact List.all_eq_true.mp ckCode_54 z (List.mem_range'_1.mpr ⟨by omega, by omega⟩)
  by_cases h55 : z < 257
  · exact List.all_eq_true.mp ckCode_55 z (List.mem_range'_1.mpr ⟨by omega, by omega⟩)
  by_cases h56 : z < 259
  · exact List.all_eq_true.mp ckCode_56 z (List.mem_range'_1.mpr ⟨by omega, by omega⟩)
  by_cases h57 : z < 262
  · exact List.all_eq_true.mp ckCode_57 z (List.mem_range'_1.mpr ⟨by omega, by omega⟩)
  by_cases h58 : z < 266
  · exact List.all_eq_true.mp ckCode_58 z (List.mem_range'_1.mpr ⟨by omega, by omega⟩)
  by_cases h59 : z < 271
  · exact List.all_eq_true.mp ckCode_59 z (List.mem_range'_1.mpr ⟨by omega, by omega⟩)
  omega
