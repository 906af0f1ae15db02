/-! the program keeps what the small machine asks -/
theorem pg_code : mOKcode pg pgBy := by
  intro y pc ins h
  have h : pgAt (pgK0 (pgC y)) pc = some ins := h
  unfold pgAt at h
  cases hb : Nat.blt pc (pgK0 (pgC y)).1 with
  | false => rw [hb] at h; cases h
  | true =>
    rw [hb] at h
    have hlt : pc < (pgK0 (pgC y)).1 := by simp [Nat.blt] at hb; omega
    have h1 := List.all_eq_true.mp (ckCode_all (pgC y) (pgC_lt y)) pc (List.mem_range.mpr hlt)
    have h2 : (pgK0 (pgC y)).2 pc = some ins := h
    unfold ckAt at h1
    rw [h2] at h1
    exact ckDec_ok h1
def pgLay (ci : Nat) : List Nat := (bif Nat.blt ci 6 then (bif Nat.blt ci 3 then (bif Nat.blt ci 1 then [1101, 1103, 1105, 1107, 1109, 1111, 1113, 1115, 1117, 1119, 1121, 1123, 1125, 1127, 1129, 1131, 1133] else (bif Nat.blt ci 2 then [1218, 1220, 1222, 1224, 1226, 1228, 1230, 1232, 1234, 1236, 1238] else [5086, 5088])) else (bif Nat.blt ci 4 then [2135, 2137, 2139, 2141, 2143, 2145, 2147, 2149, 2151, 2153, 2155, 2157] else (bif Nat.blt ci 5 then [4125, 4127, 4129, 4131, 4133, 4135, 4137, 4139, 4141, 4143, 4145, 4147] else [5033, 5035, 5037, 5039, 5041]))) else (bif Nat.blt ci 9 then (bif Nat.blt ci 7 then [1151, 1153, 1155, 1157, 1159, 1161, 1163, 1165, 1167] else (bif Nat.blt ci 8 then [1060, 1062, 1064, 1066, 1068, 1070] else [2017, 2019, 2021, 2023, 2025, 2027, 2029])) else (bif Nat.blt ci 11 then (bif Nat.blt ci 10 then [3043, 3045, 3047, 3049, 3051, 3053] else [1037, 1039]) else (bif Nat.blt ci 12 then [2042, 2044, 2046, 2048, 2050, 2052, 2054, 2056, 2058, 2060] else [5211, 5213, 5215, 5217, 5219, 5221, 5223, 5225, 5227, 5229, 5231, 5233, 5235, 5237, 5239, 6001, 6003, 6005, 6007, 6009, 6011, 6013, 6015, 6017, 6019, 6021, 6023, 6025, 6027, 6029, 6031, 6033, 6035, 6037, 6039, 6041, 6043, 6045, 6047, 6049, 6051, 6053, 6055, 6057, 6059, 6061, 6063, 6065, 6067]))))
theorem pgOw_lt (y : Nat) : pgOw y < 16 := by
  have h : (List.range 272).all (fun z => decide (pgOw0 z < 16)) = true := by decide +kernel
  have := List.all_eq_true.mp h (pgC y) (List.mem_range.mpr (pgC_lt y))
  show pgOw0 (pgC y) < _
  simpa using this
theorem pgOn_eq (y : Nat) : (pgNm y).cls = pgOn (pgOw y) := by
  have h := ckR_all (pgC y) (pgC_lt y)
  simp only [ckR, Bool.and_eq_true, decide_eq_true_eq] at h
  exact h.1.1.1
theorem pg_plain (y : Nat) : plainName (pgNm y).cls = true := by
  have h := ckR_all (pgC y) (pgC_lt y)
  simp only [ckR, Bool.and_eq_true, decide_eq_true_eq] at h
  exact h.1.1.2
theorem pg_init (y : Nat) (hi : (pgInfo y).2.2.2.2.1 = true) : (pgNm y).name = "<init>" ∧ (vwCl[(pgInfo y).2.2.2.2.2]?).map (fun q => q.1) = some (pgNm y).cls := by
  have h := ckR_all (pgC y) (pgC_lt y)
  have hi : (pgInfo0 (pgC y)).2.2.2.2.1 = true := hi
  simp only [ckR, Bool.and_eq_true, decide_eq_true_eq, hi, cond_true] at h
  exact h.1.2
theorem pg_ret : mOKret pg pgNm pgRt := by
  intro y
  have h := ckR_all (pgC y) (pgC_lt y)
  simp only [ckR, Bool.and_eq_true] at h
  have h2 := h.2
  refine ⟨fun q => ?_, fun q => ?_, fun q => ?_, fun q => ?_, fun q => ?_, fun q => (pg_init y q).1⟩ <;>
  · have q9 : (pgInfo0 (pgC y)).2.2.2.1 = _ := q
    show _
    unfold pgRt
    rw [q9] at h2
    split at h2 <;> simp_all
set_option maxRecDepth 100000 in
theorem ckLdc_all : (List.range 16).all (fun o => (pgLdc o).all (fun q => ckT q.2.2 (.constant (pgOn o) q.1 q.2.1)) && (pgLdc2 o).all (fun q => ckT q.2.2 (.constantLong (pgOn o) q.1 q.2.1))) = true := by decide +kernel
theorem pg_ldc : mOKldc mTs pg pgNm := by
  refine ⟨fun y i v h => ?_, fun y i v h => ?_⟩
  · have h1 := List.all_eq_true.mp ckLdc_all (pgOw y) (List.mem_range.mpr (pgOw_lt y))
    simp only [Bool.and_eq_true] at h1
    obtain ⟨q, hq, rfl⟩ := Option.map_eq_some_iff.mp (show (pgFind (pgLdc (pgOw y)) i).map (fun q => q.1) = some v from h)
    rw [pgOn_eq]
    exact ckT_ok (List.all_eq_true.mp h1.1 _ (pgFind_mem hq))
  · have h1 := List.all_eq_true.mp ckLdc_all (pgOw y) (List.mem_range.mpr (pgOw_lt y))
    simp only [Bool.and_eq_true] at h1
    obtain ⟨q, hq, rfl⟩ := Option.map_eq_some_iff.mp (show (pgFind (pgLdc2 (pgOw y)) i).map (fun q => q.1) = some v from h)
    rw [pgOn_eq]
    exact ckT_ok (List.all_eq_true.mp h1.2 _ (pgFind_mem hq))
def ckF (o : Nat) (q : Nat × (Nat × Nat) × Nat) : Bool := match vwCl[q.2.1.1]? with
  | some c => Nat.blt q.2.1.2 c.2.2 && ckT q.2.2 (.fieldLink (pgOn o) q.1 (c.2.1 q.2.1.2).1 (c.2.1 q.2.1.2).2.1 (c.2.1 q.2.1.2).2.2.1)
  | none => false
set_option maxRecDepth 100000 in
theorem ckF_0 : (pgFld 0).all (ckF 0) = true := by decide +kernel
set_option maxRecDepth 100000 in
theorem ckF_1 : (pgFld 1).all (ckF 1) = true := by decide +kernel
set_option maxRecDepth 100000 in
theorem ckF_2 : (pgFld 2).all (ckF 2) = true := by decide +kernel
set_option maxRecDepth 100000 in
theorem ckF_3 : (pgFld 3).all (ckF 3) = true := by decide +kernel
set_option maxRecDepth 100000 in
theorem ckF_4 : (pgFld 4).all (ckF 4) = true := by decide +kernel
set_option maxRecDepth 100000 in
theorem ckF_5 : (pgFld 5).all (ckF 5) = true := by decide +kernel
set_option maxRecDepth 100000 in
theorem ckF_6 : (pgFld 6).all (ckF 6) = true := by decide +kernel
set_option maxRecDepth 100000 in
theorem ckF_7 : (pgFld 7).all (ckF 7) = true := by decide +kernel
set_option maxRecDepth 100000 in
theorem ckF_8 : (pgFld 8).all (ckF 8) = true := by decide +kernel
set_option maxRecDepth 100000 in
theorem ckF_9 : (pgFld 9).all (ckF 9) = true := by decide +kernel
set_option maxRecDepth 100000 in
theorem ckF_10 : (pgFld 10).all (ckF 10) = true := by decide +kernel
set_option maxRecDepth 100000 in
theorem ckF_11 : (pgFld 11).all (ckF 11) = true := by decide +kernel
set_option maxRecDepth 100000 in
theorem ckF_12 : (pgFld 12).all (ckF 12) = true := by decide +kernel
set_option maxRecDepth 100000 in
theorem ckF_13 : (pgFld 13).all (ckF 13) = true := by decide +kernel
set_option maxRecDepth 100000 in
theorem ckF_14 : (pgFld 14).all (ckF 14) = true := by decide +kernel
set_option maxRecDepth 100000 in
theorem ckF_15 : (pgFld 15).all (ckF 15) = true := by decide +kernel
theorem ckF_all (o : Nat) (ho : o < 16) : (pgFld o).all (ckF o) = true := by
  match o, ho with
  | 0, _ => exact ckF_0
  | 1, _ => exact ckF_1
  | 2, _ => exact ckF_2
  | 3, _ => exact ckF_3
  | 4, _ => exact ckF_4
  | 5, _ => exact ckF_5
  | 6, _ => exact ckF_6
  | 7, _ => exact ckF_7
  | 8, _ => exact ckF_8
  | 9, _ => exact ckF_9
  | 10, _ => exact ckF_10
  | 11, _ => exact ckF_11
  | 12, _ => exact ckF_12
  | 13, _ => exact ckF_13
  | 14, _ => exact ckF_14
  | 15, _ => exact ckF_15
  | k + 16, h => exact absurd h (by omega)
theorem pg_fld : mOKfld mTs vwCl pg pgNm := by
  intro y i v h
  obtain ⟨q, hq, rfl⟩ := Option.map_eq_some_iff.mp (show (pgFind (pgFld (pgOw y)) i).map (fun q => q.1) = some v from h)
  have h1 := List.all_eq_true.mp (ckF_all (pgOw y) (pgOw_lt y)) _ (pgFind_mem hq)
  unfold ckF at h1
  split at h1
  · next c hc =>
    simp only [Bool.and_eq_true] at h1
    refine ⟨c.1, c.2.1, c.2.2, hc, by have := h1.1; simp [Nat.blt] at this; omega, ?_⟩
    rw [pgOn_eq]
    exact ckT_ok h1.2
  · cases h1
def ckL (ci : Nat) (C : String) (T : u_T) (N : Nat) : Bool := (List.range N).all (fun k => ckT ((pgLay ci).getD k 0) (u_lay C T k)) && (List.range N).all (fun k => decide (pgFin ci k = (T k).2.2.2) && decide ((T k).1 = C))
theorem ckL_ok {ci : Nat} {C : String} {T : u_T} {N : Nat} (h : ckL ci C T N = true) : (∀ w ∈ u_ws C T N, w ∈ mTs) ∧ ∀ k, k < N → pgFin ci k = (T k).2.2.2 ∧ (T k).1 = C := by
  simp only [ckL, Bool.and_eq_true] at h
  refine ⟨fun w hw => ?_, fun k hk => ?_⟩
  · obtain ⟨k, hk, rfl⟩ := List.mem_map.mp hw
    exact ckT_ok (List.all_eq_true.mp h.1 k hk)
  · have := List.all_eq_true.mp h.2 k (List.mem_range.mpr hk)
    simpa using this
set_option maxRecDepth 100000 in
theorem ckL_0 : ckL 0 RX0 TX0 17 = true := by decide +kernel
set_option maxRecDepth 100000 in
theorem ckL_1 : ckL 1 RX1 TX1 11 = true := by decide +kernel
set_option maxRecDepth 100000 in
theorem ckL_2 : ckL 2 RX2 TX2 2 = true := by decide +kernel
set_option maxRecDepth 100000 in
theorem ckL_3 : ckL 3 RX3 TX3 12 = true := by decide +kernel
set_option maxRecDepth 100000 in
theorem ckL_4 : ckL 4 RX4 TX4 12 = true := by decide +kernel
set_option maxRecDepth 100000 in
theorem ckL_5 : ckL 5 RX5 TX5 5 = true := by decide +kernel
set_option maxRecDepth 100000 in
theorem ckL_6 : ckL 6 RX6 TX6 9 = true := by decide +kernel
set_option maxRecDepth 100000 in
theorem ckL_7 : ckL 7 RX7 TX7 6 = true := by decide +kernel
set_option maxRecDepth 100000 in
theorem ckL_8 : ckL 8 RX8 TX8 7 = true := by decide +kernel
set_option maxRecDepth 100000 in
theorem ckL_9 : ckL 9 RX9 TX9 6 = true := by decide +kernel
set_option maxRecDepth 100000 in
theorem ckL_10 : ckL 10 RX10 TX10 2 = true := by decide +kernel
set_option maxRecDepth 100000 in
theorem ckL_11 : ckL 11 RX11 TX11 10 = true := by decide +kernel
set_option maxRecDepth 100000 in
theorem ckL_12 : ckL 12 RX12 TX12 49 = true := by decide +kernel
theorem pg_cls : mOKcls mTs vwCl pg pgNm := by
  intro ci C T N h
  have hy : ∀ y, (pgInfo y).2.2.2.2.1 = true → (pgInfo y).2.2.2.2.2 = ci → (pgNm y).cls = C := by
    intro y hi hc
    have := (pg_init y hi).2
    rw [hc, h] at this
    exact (Option.some.inj this).symm
  match ci, h with
  | 0, h => cases h; exact ⟨(ckL_ok ckL_0).1, tyX0_ok, (ckL_ok ckL_0).2, nmX0, hy⟩
  | 1, h => cases h; exact ⟨(ckL_ok ckL_1).1, tyX1_ok, (ckL_ok ckL_1).2, nmX1, hy⟩
  | 2, h => cases h; exact ⟨(ckL_ok ckL_2).1, tyX2_ok, (ckL_ok ckL_2).2, nmX2, hy⟩
  | 3, h => cases h; exact ⟨(ckL_ok ckL_3).1, tyX3_ok, (ckL_ok ckL_3).2, nmX3, hy⟩
  | 4, h => cases h; exact ⟨(ckL_ok ckL_4).1, tyX4_ok, (ckL_ok ckL_4).2, nmX4, hy⟩
  | 5, h => cases h; exact ⟨(ckL_ok ckL_5).1, tyX5_ok, (ckL_ok ckL_5).2, nmX5, hy⟩
  | 6, h => cases h; exact ⟨(ckL_ok ckL_6).1, tyX6_ok, (ckL_ok ckL_6).2, nmX6, hy⟩
  | 7, h => cases h; exact ⟨(ckL_ok ckL_7).1, tyX7_ok, (ckL_ok ckL_7).2, nmX7, hy⟩
  | 8, h => cases h; exact ⟨(ckL_ok ckL_8).1, tyX8_ok, (ckL_ok ckL_8).2, nmX8, hy⟩
  | 9, h => cases h; exact ⟨(ckL_ok ckL_9).1, tyX9_ok, (ckL_ok ckL_9).2, nmX9, hy⟩
  | 10, h => cases h; exact ⟨(ckL_ok ckL_10).1, tyX10_ok, (ckL_ok ckL_10).2, nmX10, hy⟩
  | 11, h => cases h; exact ⟨(ckL_ok ckL_11).1, tyX11_ok, (ckL_ok ckL_11).2, nmX11, hy⟩
  | 12, h => cases h; exact ⟨(ckL_ok ckL_12).1, tyX12_ok, (ckL_ok ckL_12).2, nmX12, hy⟩
  | k + 13, h => simp [vwCl] at h
def ckN (o : Nat) (q : Nat × Nat × Nat × Nat × Nat) : Bool := match vwCl[q.2.1]? with
  | some c => decide ((pgBl q.2.1).length = c.2.2) && ckT q.2.2.1 (.classLink (pgOn o) q.1 c.1) && ckT q.2.2.2.1 (.instantiable c.1 c.2.2) && ckT q.2.2.2.2 (.initialized c.1) && (List.range c.2.2).all (fun j => decide ((pgBl q.2.1)[j]? = some (defaultValue (pgTy q.2.1 j))))
  | none => false
set_option maxRecDepth 100000 in
theorem ckN_all : (List.range 16).all (fun o => (pgCls o).all (ckN o)) = true := by decide +kernel
theorem pg_new : mOKnew mTs vwCl pg pgNm := by
  intro y i v h
  obtain ⟨q, hq, rfl⟩ := Option.map_eq_some_iff.mp (show (pgFind (pgCls (pgOw y)) i).map (fun q => (q.1, pgBl q.1)) = some v from h)
  have h1 := List.all_eq_true.mp (List.all_eq_true.mp ckN_all (pgOw y) (List.mem_range.mpr (pgOw_lt y))) _ (pgFind_mem hq)
  unfold ckN at h1
  split at h1
  · next c hc =>
    simp only [Bool.and_eq_true, decide_eq_true_eq] at h1
    obtain ⟨⟨⟨⟨a1, a2⟩, a3⟩, a4⟩, a5⟩ := h1
    refine ⟨c.1, c.2.1, c.2.2, hc, a1, by rw [pgOn_eq]; exact ckT_ok a2, ckT_ok a3, ckT_ok a4, fun j hj => ?_⟩
    have := List.all_eq_true.mp a5 j (List.mem_range.mpr hj)
    show (pgBl q.1)[j]? = some (defaultValue (pgTy q.1 j))
    simpa using this
  · cases h1
def ckA (o : Nat) (q : Nat × Nat × Nat) : Bool := match pgTL[q.2.1]? with
  | some (.object C) => ckT q.2.2 (.classLink (pgOn o) q.1 C) && decide (Cond.arrayOver (.object C) ∈ mNL)
  | some (.array t) => ckT q.2.2 (.classLink (pgOn o) q.1 (FieldType.array t).toString) && decide (Cond.arrayOver (.array t) ∈ mNL)
  | _ => false
set_option maxRecDepth 100000 in
theorem ckA_all : (List.range 16).all (fun o => (pgArr o).all (ckA o)) = true := by decide +kernel
set_option maxRecDepth 100000 in
theorem ckA_p : ckT 1042 (.arrayClass .int) = true ∧ ckT 1170 (.arrayClass .long) = true ∧ ckT 6070 (.arrayClass .boolean) = true := by decide +kernel
theorem pg_arr : mOKarr mTs mNL pgTL pg pgNm := by
  refine ⟨⟨rfl, rfl, rfl, rfl⟩, ⟨ckT_ok ckA_p.1, ckT_ok ckA_p.2.1, ckT_ok ckA_p.2.2⟩, ⟨rfl, ?_⟩, ?_⟩
  · intro k t h hk
    match k, h, hk with
    | 3, h, _ => cases h; rfl
    | 4, h, _ => cases h; rfl
    | 5, h, _ => cases h; rfl
    | 6, h, _ => cases h; rfl
    | 7, h, _ => cases h; rfl
    | 8, h, _ => cases h; rfl
    | 9, h, _ => cases h; rfl
    | k + 10, h, _ => simp [pgTL] at h
  · intro y i v h
    obtain ⟨q, hq, rfl⟩ := Option.map_eq_some_iff.mp (show (pgFind (pgArr (pgOw y)) i).map (fun q => q.1) = some v from h)
    have h1 := List.all_eq_true.mp (List.all_eq_true.mp ckA_all (pgOw y) (List.mem_range.mpr (pgOw_lt y))) _ (pgFind_mem hq)
    unfold ckA at h1
    split at h1
    · next C hc =>
      simp only [Bool.and_eq_true, decide_eq_true_eq] at h1
      exact Or.inl ⟨C, hc, by rw [pgOn_eq]; exact ckT_ok h1.1, h1.2⟩
    · next t hc =>
      simp only [Bool.and_eq_true, decide_eq_true_eq] at h1
      exact Or.inr ⟨t, hc, by rw [pgOn_eq]; exact ckT_ok h1.1, h1.2⟩
    · cases h1
theorem pg_elem : mOKelem vwCl pgTL pg := by
  intro t e h
  have h : pgElem t e = true := h
  cases e with
  | inl a =>
    simp only [pgElem, Bool.and_eq_true, beq_iff_eq] at h
    obtain ⟨a1, a2, a3⟩ := a
    obtain ⟨h1, h2⟩ := h
    dsimp only at h2
    subst h1; subst h2
    exact Or.inr ⟨0, .int, a2, a3, rfl, rfl, rfl⟩
  | inr o =>
    obtain ⟨o1, o2⟩ := o
    simp only [pgElem] at h
    split at h
    all_goals first | (simp only [beq_iff_eq] at h; subst h; exact Or.inl ⟨_, _, _, _, _, rfl, rfl, rfl⟩) | cases h
def ckI (o : Nat) (q : Nat × (Nat × Nat × Nat) × Nat) : Bool := match q.2.1 with
  | (0, y, n) => Nat.blt y 271 && (pgMt0 y).1 && Nat.beq n (pgMt0 y).2.2.2.2.2 && ckT q.2.2 (.methodLink (pgOn o) q.1 (pgNm0 y))
  | (1, y, n) => Nat.blt y 271 && !(pgMt0 y).1 && Nat.beq n ((pgMt0 y).2.2.2.2.2 + 1) && decide ((pgNm0 y).name ≠ "<init>") && ckT q.2.2 (.methodLink (pgOn o) q.1 (pgNm0 y))
  | (2, y, n) => Nat.blt y 271 && !(pgMt0 y).1 && Nat.beq n ((pgMt0 y).2.2.2.2.2 + 1) && decide ((pgNm0 y).name = "<init>" ∧ pgRt0 y = none) && ckT q.2.2 (.methodLink (pgOn o) q.1 (pgNm0 y))
  | (3, y, n) => Nat.blt y 271 && !(pgMt0 y).1 && Nat.beq n ((pgMt0 y).2.2.2.2.2 + 1) && decide ((pgNm0 y).name = "<init>" ∧ pgRt0 y = none) && decide (Cond.methodLinkNest (pgOn o) q.1 (pgNm0 y) "TypeRoom" ∈ mNL)
  | (4, y, n) => Nat.blt y 271 && (pgMt0 y).1 && Nat.beq n (pgMt0 y).2.2.2.2.2 && decide (Cond.methodLinkNest (pgOn o) q.1 (pgNm0 y) "TypeRoom" ∈ mNL)
  | (5, _, _) => ckT q.2.2 (.methodLink (pgOn o) q.1 Lib.objectInit)
  | (6, _, _) => ckT q.2.2 (.methodLink (pgOn o) q.1 arraycopyName)
  | (7, _, _) => ckT q.2.2 (.methodLink (pgOn o) q.1 Lib.Math.max.name)
  | (8, _, _) => ckT q.2.2 (.methodLink (pgOn o) q.1 Lib.Math.min.name)
  | (9, _, _) => ckT q.2.2 (.methodLink (pgOn o) q.1 ⟨"[I", "clone", "()Ljava/lang/Object;"⟩)
  | _ => false
set_option maxRecDepth 100000 in
theorem ckI_0 : (pgInv 0).all (ckI 0) = true := by decide +kernel
set_option maxRecDepth 100000 in
theorem ckI_1 : (pgInv 1).all (ckI 1) = true := by decide +kernel
set_option maxRecDepth 100000 in
theorem ckI_2 : (pgInv 2).all (ckI 2) = true := by decide +kernel
set_option maxRecDepth 100000 in
theorem ckI_3 : (pgInv 3).all (ckI 3) = true := by decide +kernel
set_option maxRecDepth 100000 in
theorem ckI_4 : (pgInv 4).all (ckI 4) = true := by decide +kernel
set_option maxRecDepth 100000 in
theorem ckI_5 : (pgInv 5).all (ckI 5) = true := by decide +kernel
set_option maxRecDepth 100000 in
theorem ckI_6 : (pgInv 6).all (ckI 6) = true := by decide +kernel
set_option maxRecDepth 100000 in
theorem ckI_7 : (pgInv 7).all (ckI 7) = true := by decide +kernel
set_option maxRecDepth 100000 in
theorem ckI_8 : (pgInv 8).all (ckI 8) = true := by decide +kernel
set_option maxRecDepth 100000 in
theorem ckI_9 : (pgInv 9).all (ckI 9) = true := by decide +kernel
set_option maxRecDepth 100000 in
theorem ckI_10 : (pgInv 10).all (ckI 10) = true := by decide +kernel
set_option maxRecDepth 100000 in
theorem ckI_11 : (pgInv 11).all (ckI 11) = true := by decide +kernel
set_option maxRecDepth 100000 in
theorem ckI_12 : (pgInv 12).all (ckI 12) = true := by decide +kernel
set_option maxRecDepth 100000 in
theorem ckI_13 : (pgInv 13).all (ckI 13) = true := by decide +kernel
set_option maxRecDepth 100000 in
theorem ckI_14 : (pgInv 14).all (ckI 14) = true := by decide +kernel
set_option maxRecDepth 100000 in
theorem ckI_15 : (pgInv 15).all (ckI 15) = true := by decide +kernel
theorem ckI_all (o : Nat) (ho : o < 16) : (pgInv o).all (ckI o) = true := by
  match o, ho with
  | 0, _ => exact ckI_0
  | 1, _ => exact ckI_1
  | 2, _ => exact ckI_2
  | 3, _ => exact ckI_3
  | 4, _ => exact ckI_4
  | 5, _ => exact ckI_5
  | 6, _ => exact ckI_6
  | 7, _ => exact ckI_7
  | 8, _ => exact ckI_8
  | 9, _ => exact ckI_9
  | 10, _ => exact ckI_10
  | 11, _ => exact ckI_11
  | 12, _ => exact ckI_12
  | 13, _ => exact ckI_13
  | 14, _ => exact ckI_14
  | 15, _ => exact ckI_15
  | k + 16, h => exact absurd h (by omega)
set_option maxRecDepth 100000 in
theorem ckO : ckT 1024 (.instanceMethod Lib.objectInit) = true ∧ ckT 1025 (.code Lib.objectInit ⟨#[0xb1]⟩ 1 none) = true ∧ ckT 3021 (.native arraycopyName) = true ∧ ckT 3020 (.static arraycopyName) = true ∧ ckT 1011 (.initialized "java/lang/System") = true ∧ ckT 3114 (.static Lib.Math.max.name) = true ∧ ckT 1013 (.initialized "java/lang/Math") = true ∧ ckT 3115 (.code Lib.Math.max.name Lib.Math.max.code 2 (some .int)) = true ∧ ckT 5018 (.static Lib.Math.min.name) = true ∧ ckT 5019 (.code Lib.Math.min.name Lib.Math.min.code 2 (some .int)) = true := by decide +kernel
theorem pgC_self {z : Nat} (h : z < 272) : pgC z = z := by
  unfold pgC
  have : Nat.blt z 272 = true := by simp [Nat.blt]; omega
  rw [this]; rfl
set_option maxRecDepth 100000 in
theorem ckO9 : ckT 5011 (.sameMethod "[I" "java/lang/Object" "clone" "()Ljava/lang/Object;") = true ∧ ckT 5012 (.native ⟨"java/lang/Object", "clone", "()Ljava/lang/Object;"⟩) = true ∧ ckT 5013 (.instanceMethod ⟨"java/lang/Object", "clone", "()Ljava/lang/Object;"⟩) = true ∧ ckT 5014 (.selects "[I" ⟨"[I", "clone", "()Ljava/lang/Object;"⟩ ⟨"java/lang/Object", "clone", "()Ljava/lang/Object;"⟩) = true ∧ decide (Cond.castable "[I" "java/lang/Cloneable" ∈ mNL) = true := by decide +kernel
theorem pg_inv : mOKinv mTs mNL vwCl pg pgNm pgBy pgRt := by
  intro y i v h
  obtain ⟨q, hq, rfl⟩ := Option.map_eq_some_iff.mp (show (pgFind (pgInv (pgOw y)) i).map (fun q => q.1) = some v from h)
  have h1 := List.all_eq_true.mp (ckI_all (pgOw y) (pgOw_lt y)) _ (pgFind_mem hq)
  rw [pgOn_eq y]
  obtain ⟨⟨k, z, n⟩, ps⟩ := q
  dsimp only
  have base : ∀ z, z < 271 → (Cond.code (pgNm z) (pgBy z) (mpInfo pg z).1 (pgRt z) ∈ mTs ∧ Cond.initialized (pgNm z).cls ∈ mTs ∧ plainName (pgNm z).cls = true ∧ (pgNm z).cls ≠ "java/lang/invoke/MethodHandle" ∧ (pgNm z).cls ≠ "java/lang/invoke/VarHandle") ∧ (parseMethodDescriptor (pgNm z).desc).map (fun d => d.parameters.length) = some (pgMt0 z).2.2.2.2.2 ∧ ((pgMt0 z).1 = true → Cond.static (pgNm z) ∈ mTs) ∧ ((pgMt0 z).1 = false → Cond.instanceMethod (pgNm z) ∈ mTs ∧ ((pgNm z).name ≠ "<init>" → Cond.selects (pgNm z).cls (pgNm z) (pgNm z) ∈ mTs ∧ (vwCl[(pgInfo z).2.2.2.2.2]?).map (fun q => q.1) = some (pgNm z).cls)) := by
    intro z hz
    have hc := pgC_self (Nat.lt_succ_of_lt hz)
    have h9 := ckM_all z hz
    unfold ckM at h9
    have e1 : pgNm z = pgNm0 z := by unfold pgNm; rw [hc]
    have e2 : pgBy z = pgBy0 z := by unfold pgBy; rw [hc]
    have e3 : mpInfo pg z = pgInfo0 z := by show pgInfo0 (pgC z) = _; rw [hc]
    have e4 : pgRt z = pgRt0 z := by unfold pgRt; rw [hc]
    have e5 : pgInfo z = pgInfo0 z := by unfold pgInfo; rw [hc]
    rw [e1, e2, e3, e4, e5]
    generalize hmt : pgMt0 z = mt at h9
    obtain ⟨st, pc, pi, pa, pss, np⟩ := mt
    simp only [Bool.and_eq_true, decide_eq_true_eq] at h9
    obtain ⟨⟨⟨⟨⟨a2, a3⟩, a4⟩, a5⟩, a6⟩, a7⟩ := h9
    have a1 := ckW_all z hz
    refine ⟨⟨a1, ckT_ok a2, a3, a4, a5⟩, a6, fun hs => ?_, fun hs => ?_⟩
    · dsimp only at hs
      rw [hs] at a7
      exact ckT_ok a7
    · dsimp only at hs
      rw [hs] at a7
      simp only [cond_false, Bool.and_eq_true, Bool.or_eq_true, decide_eq_true_eq] at a7
      refine ⟨ckT_ok a7.1, fun hn => ?_⟩
      rcases a7.2 with a8 | a8
      · exact absurd a8.1 hn
      · exact ⟨ckT_ok a8.1, a8.2⟩
  have self : ∀ z, z < 271 → pgNm z = pgNm0 z ∧ pgRt z = pgRt0 z := by
    intro z hz
    have hc := pgC_self (Nat.lt_succ_of_lt hz)
    exact ⟨by unfold pgNm; rw [hc], by unfold pgRt; rw [hc]⟩
  have plus : ∀ {z n : Nat}, (parseMethodDescriptor (pgNm z).desc).map (fun d => d.parameters.length) = some n → (parseMethodDescriptor (pgNm z).desc).map (fun d => d.parameters.length + 1) = some (n + 1) := by
    intro z n hz
    cases hp : parseMethodDescriptor (pgNm z).desc with
    | none => rw [hp] at hz; cases hz
    | some d => rw [hp] at hz; simp at hz ⊢; exact hz
  match k, h1 with
  | 0, h1 =>
    simp only [ckI, Bool.and_eq_true, Nat.beq_eq] at h1
    obtain ⟨⟨⟨b1, b2⟩, b3⟩, b4⟩ := h1
    have hz : z < 271 := by simp [Nat.blt] at b1; omega
    obtain ⟨c1, c2, c3, c4⟩ := base z hz
    rw [← (self z hz).1] at b4
    refine ⟨fun _ => c1, fun _ => ckT_ok b4, fun q => absurd q (by simp), fun _ => ⟨c3 b2, by rw [c2, b3]⟩, fun q => absurd q (by simp), fun q => absurd q (by simp), fun q => absurd q (by simp), fun q => absurd q (by simp), fun q => absurd q (by simp), fun q => absurd q (by simp), fun q => absurd q (by simp)⟩
  | 1, h1 =>
    simp only [ckI, Bool.and_eq_true, Nat.beq_eq, Bool.not_eq_true', decide_eq_true_eq] at h1
    obtain ⟨⟨⟨⟨b1, b2⟩, b3⟩, b5⟩, b4⟩ := h1
    have hz : z < 271 := by simp [Nat.blt] at b1; omega
    obtain ⟨c1, c2, c3, c4⟩ := base z hz
    rw [← (self z hz).1] at b4 b5
    obtain ⟨d1, d2⟩ := c4 b2
    obtain ⟨d3, d4⟩ := d2 b5
    refine ⟨fun _ => c1, fun _ => ckT_ok b4, fun q => absurd q (by simp), fun q => absurd q (by simp), fun _ => ⟨d1, d3, by rw [plus c2, b3], ?_⟩, fun q => absurd q (by simp), fun q => absurd q (by simp), fun q => absurd q (by simp), fun q => absurd q (by simp), fun q => absurd q (by simp), fun q => absurd q (by simp)⟩
    obtain ⟨c0, hc0, hc1⟩ := Option.map_eq_some_iff.mp d4
    refine ⟨c0.2.1, c0.2.2, ?_⟩
    show vwCl[(pgInfo z).2.2.2.2.2]? = _
    rw [hc0, ← hc1]
  | 2, h1 =>
    simp only [ckI, Bool.and_eq_true, Nat.beq_eq, Bool.not_eq_true', decide_eq_true_eq] at h1
    obtain ⟨⟨⟨⟨b1, b2⟩, b3⟩, b5⟩, b4⟩ := h1
    have hz : z < 271 := by simp [Nat.blt] at b1; omega
    obtain ⟨c1, c2, c3, c4⟩ := base z hz
    rw [← (self z hz).1, ← (self z hz).2] at b5
    rw [← (self z hz).1] at b4
    obtain ⟨d1, -⟩ := c4 b2
    exact ⟨fun _ => c1, fun _ => ckT_ok b4, fun q => absurd q (by simp), fun q => absurd q (by simp), fun q => absurd q (by simp), fun _ => ⟨d1, b5.1, b5.2, by rw [plus c2, b3]⟩, fun q => absurd q (by simp), fun q => absurd q (by simp), fun q => absurd q (by simp), fun q => absurd q (by simp), fun q => absurd q (by simp)⟩
  | 3, h1 =>
    simp only [ckI, Bool.and_eq_true, Nat.beq_eq, Bool.not_eq_true', decide_eq_true_eq] at h1
    obtain ⟨⟨⟨⟨b1, b2⟩, b3⟩, b5⟩, b4⟩ := h1
    have hz : z < 271 := by simp [Nat.blt] at b1; omega
    obtain ⟨c1, c2, c3, c4⟩ := base z hz
    rw [← (self z hz).1, ← (self z hz).2] at b5
    rw [← (self z hz).1] at b4
    obtain ⟨d1, -⟩ := c4 b2
    exact ⟨fun _ => c1, fun q => absurd q (by simp), fun _ => ⟨_, b4⟩, fun q => absurd q (by simp), fun q => absurd q (by simp), fun _ => ⟨d1, b5.1, b5.2, by rw [plus c2, b3]⟩, fun q => absurd q (by simp), fun q => absurd q (by simp), fun q => absurd q (by simp), fun q => absurd q (by simp), fun q => absurd q (by simp)⟩
  | 4, h1 =>
    simp only [ckI, Bool.and_eq_true, Nat.beq_eq, decide_eq_true_eq] at h1
    obtain ⟨⟨⟨b1, b2⟩, b3⟩, b4⟩ := h1
    have hz : z < 271 := by simp [Nat.blt] at b1; omega
    obtain ⟨c1, c2, c3, c4⟩ := base z hz
    rw [← (self z hz).1] at b4
    exact ⟨fun _ => c1, fun q => absurd q (by simp), fun _ => ⟨_, b4⟩, fun _ => ⟨c3 b2, by rw [c2, b3]⟩, fun q => absurd q (by simp), fun q => absurd q (by simp), fun q => absurd q (by simp), fun q => absurd q (by simp), fun q => absurd q (by simp), fun q => absurd q (by simp), fun q => absurd q (by simp)⟩
  | 5, h1 =>
    exact ⟨fun q => absurd q (by simp), fun q => absurd q (by simp), fun q => absurd q (by simp), fun q => absurd q (by simp), fun q => absurd q (by simp), fun q => absurd q (by simp), fun _ => ⟨ckT_ok h1, ckT_ok ckO.1, ckT_ok ckO.2.1⟩, fun q => absurd q (by simp), fun q => absurd q (by simp), fun q => absurd q (by simp), fun q => absurd q (by simp)⟩
  | 6, h1 =>
    exact ⟨fun q => absurd q (by simp), fun q => absurd q (by simp), fun q => absurd q (by simp), fun q => absurd q (by simp), fun q => absurd q (by simp), fun q => absurd q (by simp), fun q => absurd q (by simp), fun _ => ⟨ckT_ok h1, ckT_ok ckO.2.2.1, ckT_ok ckO.2.2.2.1, ckT_ok ckO.2.2.2.2.1⟩, fun q => absurd q (by simp), fun q => absurd q (by simp), fun q => absurd q (by simp)⟩
  | 7, h1 =>
    exact ⟨fun q => absurd q (by simp), fun q => absurd q (by simp), fun q => absurd q (by simp), fun q => absurd q (by simp), fun q => absurd q (by simp), fun q => absurd q (by simp), fun q => absurd q (by simp), fun q => absurd q (by simp), fun _ => ⟨ckT_ok h1, ckT_ok ckO.2.2.2.2.2.1, ckT_ok ckO.2.2.2.2.2.2.1, ckT_ok ckO.2.2.2.2.2.2.2.1⟩, fun q => absurd q (by simp), fun q => absurd q (by simp)⟩
  | 8, h1 =>
    exact ⟨fun q => absurd q (by simp), fun q => absurd q (by simp), fun q => absurd q (by simp), fun q => absurd q (by simp), fun q => absurd q (by simp), fun q => absurd q (by simp), fun q => absurd q (by simp), fun q => absurd q (by simp), fun q => absurd q (by simp), fun _ => ⟨ckT_ok h1, ckT_ok ckO.2.2.2.2.2.2.2.2.1, ckT_ok ckO.2.2.2.2.2.2.1, ckT_ok ckO.2.2.2.2.2.2.2.2.2⟩, fun q => absurd q (by simp)⟩
  | 9, h1 =>
    exact ⟨fun q => absurd q (by simp), fun q => absurd q (by simp), fun q => absurd q (by simp), fun q => absurd q (by simp), fun q => absurd q (by simp), fun q => absurd q (by simp), fun q => absurd q (by simp), fun q => absurd q (by simp), fun q => absurd q (by simp), fun q => absurd q (by simp), fun _ => ⟨ckT_ok h1, ckT_ok ckO9.1, ckT_ok ckO9.2.1, ckT_ok ckO9.2.2.1, ckT_ok ckO9.2.2.2.1, of_decide_eq_true ckO9.2.2.2.2⟩⟩
  | k + 10, h1 => simp [ckI] at h1
theorem pg_ok : mOK mTs mNL vwCl pgTL pg pgNm pgBy pgRt := ⟨pg_code, pg_ldc, pg_fld, pg_cls, pg_new, pg_arr, pg_elem, pg_inv, pg_ret⟩
