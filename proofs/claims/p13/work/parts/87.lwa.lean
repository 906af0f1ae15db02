set_option maxHeartbeats 8000000 in
theorem lw_0 {L : Nat} {xs : Nat → Int32} {n sl : Nat} {T : Nat → zT} {I : Nat → Nat → Int} {P : Nat → Nat → Option Nat} {G : Nat → Nat → Int} {K : List zV → zH → Prop} {i : Int} (hL : L ≤ 3072) (h0 : 0 ≤ i) (h1 : i + 6 ≤ L) (h : zLw i n sl T I P) (hB : ∀ (n2 sl2 : Nat) (T2 : Nat → zT) (I2 : Nat → Nat → Int) (P2 : Nat → Nat → Option Nat) (G2 : Nat → Nat → Int), zLw (i + 6) n2 sl2 T2 I2 P2 → zB zMd L xs 271 1420 [(3, .inl i), (2, .inr (.inl (some 56))), (1, .inr (.inl (some 1))), (0, .inr (.inl (some 0)))] [] (n2, sl2, T2, I2, P2, G2) K) : zB zMd L xs 271 192 [(3, .inl i), (2, .inr (.inl (some 56))), (1, .inr (.inl (some 1))), (0, .inr (.inl (some 0)))] [] (n, sl, T, I, P, G) K := by
  have hn := h.1
  have hC := h.2.1
  have hT := h.2.2.1
  have t1 : T 1 = (1, 11, [1]) := hC 1 (by decide) (by decide)
  refine z_aload_n (pc2 := 193) rfl rfl rfl ?_
  refine z_aload_n (pc2 := 194) rfl rfl rfl ?_
  refine z_iload_n (pc2 := 195) rfl rfl rfl ?_
  refine z_iconst (pc2 := 196) rfl rfl ?_
  refine z_iadd (pc2 := 197) rfl rfl ?_
  refine z_sald (pc2 := 198) rfl rfl (by omega) (by omega) (by omega) (fun v1 v1e v1r => ?_)
  refine z_callV (y2 := 106) (as := [_]) (rest := []) (pc2 := 201) rfl rfl rfl rfl t1 rfl ?_
  refine c_TypeRoom_room hn hC v1r (fun e I2 P2 c1 c2 c3 c4 => ?_)
  have t56 : T 56 = (1, 12, [1]) := hT 56 (by decide) (by decide)
  show zB _ _ _ _ _ _ [_] _ _
  refine z_pop (pc2 := 202) rfl rfl rfl ?_
  refine z_aload_n (pc2 := 203) rfl rfl rfl ?_
  refine z_aload_n (pc2 := 204) rfl rfl rfl ?_
  refine z_iload_n (pc2 := 205) rfl rfl rfl ?_
  refine z_iconst (pc2 := 206) rfl rfl ?_
  refine z_iadd (pc2 := 207) rfl rfl ?_
  refine z_sald (pc2 := 208) rfl rfl (by omega) (by omega) (by omega) (fun w2 w2e w2r => ?_)
  obtain rfl : v1 = w2 := v1e.trans w2e.symm
  clear w2e w2r
  refine z_callV (y2 := 165) (as := [_]) (rest := []) (pc2 := 211) rfl rfl rfl rfl t56 rfl ?_
  refine m_room hT v1r (fun e2 I3 G3 d1 d2 d3 => ?_)
  have q := zLw_room h c1 c2 c3 c4 d1 d2 d3
  show zB _ _ _ _ _ _ [_] _ _
  refine z_pop (pc2 := 212) rfl rfl rfl ?_
  refine z_goto (pc2 := 1420) rfl rfl ?_
  refine z_lv (lv2 := [(3, _), (2, _), (1, _), (0, _)]) ⟨rfl, rfl, rfl, rfl, trivial⟩ ?_
  exact hB _ _ _ _ _ _ q.2.2
set_option maxHeartbeats 8000000 in
theorem lw_1 {L : Nat} {xs : Nat → Int32} {n sl : Nat} {T : Nat → zT} {I : Nat → Nat → Int} {P : Nat → Nat → Option Nat} {G : Nat → Nat → Int} {K : List zV → zH → Prop} {i : Int} (hL : L ≤ 3072) (h0 : 0 ≤ i) (h1 : i + 6 ≤ L) (h : zLw i n sl T I P) (hB : ∀ (n2 sl2 : Nat) (T2 : Nat → zT) (I2 : Nat → Nat → Int) (P2 : Nat → Nat → Option Nat) (G2 : Nat → Nat → Int), zLw (i + 6) n2 sl2 T2 I2 P2 → zB zMd L xs 271 1420 [(3, .inl i), (2, .inr (.inl (some 56))), (1, .inr (.inl (some 1))), (0, .inr (.inl (some 0)))] [] (n2, sl2, T2, I2, P2, G2) K) : zB zMd L xs 271 215 [(3, .inl i), (2, .inr (.inl (some 56))), (1, .inr (.inl (some 1))), (0, .inr (.inl (some 0)))] [] (n, sl, T, I, P, G) K := by
  have hn := h.1
  have hC := h.2.1
  have hT := h.2.2.1
  have t1 : T 1 = (1, 11, [1]) := hC 1 (by decide) (by decide)
  refine z_aload_n (pc2 := 216) rfl rfl rfl ?_
  refine z_aload_n (pc2 := 217) rfl rfl rfl ?_
  refine z_iload_n (pc2 := 218) rfl rfl rfl ?_
  refine z_iconst (pc2 := 219) rfl rfl ?_
  refine z_iadd (pc2 := 220) rfl rfl ?_
  refine z_sald (pc2 := 221) rfl rfl (by omega) (by omega) (by omega) (fun v1 v1e v1r => ?_)
  refine z_aload_n (pc2 := 222) rfl rfl rfl ?_
  refine z_iload_n (pc2 := 223) rfl rfl rfl ?_
  refine z_iconst (pc2 := 224) rfl rfl ?_
  refine z_iadd (pc2 := 225) rfl rfl ?_
  refine z_sald (pc2 := 226) rfl rfl (by omega) (by omega) (by omega) (fun v2 v2e v2r => ?_)
  refine z_callV (y2 := 107) (as := [_, _]) (rest := []) (pc2 := 229) rfl rfl rfl rfl t1 rfl ?_
  refine c_TypeRoom_fount hn hC v1r v2r  (fun e n2 sl2 T2 I2 P2 G2 f b => ?_)
  have t56 : T2 56 = (1, 12, [1]) := zLw_T h f.1 56 (by decide) (by decide)
  show zB _ _ _ _ _ _ [_] _ _
  refine z_pop (pc2 := 230) rfl rfl rfl ?_
  refine z_aload_n (pc2 := 231) rfl rfl rfl ?_
  refine z_aload_n (pc2 := 232) rfl rfl rfl ?_
  refine z_iload_n (pc2 := 233) rfl rfl rfl ?_
  refine z_iconst (pc2 := 234) rfl rfl ?_
  refine z_iadd (pc2 := 235) rfl rfl ?_
  refine z_sald (pc2 := 236) rfl rfl (by omega) (by omega) (by omega) (fun w3 w3e w3r => ?_)
  obtain rfl : v1 = w3 := v1e.trans w3e.symm
  clear w3e w3r
  refine z_aload_n (pc2 := 237) rfl rfl rfl ?_
  refine z_iload_n (pc2 := 238) rfl rfl rfl ?_
  refine z_iconst (pc2 := 239) rfl rfl ?_
  refine z_iadd (pc2 := 240) rfl rfl ?_
  refine z_sald (pc2 := 241) rfl rfl (by omega) (by omega) (by omega) (fun w4 w4e w4r => ?_)
  obtain rfl : v2 = w4 := v2e.trans w4e.symm
  clear w4e w4r
  refine z_callV (y2 := 196) (as := [_, _]) (rest := []) (pc2 := 244) rfl rfl rfl rfl t56 rfl ?_
  refine m_fount (zLw_T h f.1) v1r v2r  (fun e2 I3 G3 r => ?_)
  show zB _ _ _ _ _ _ [_] _ _
  refine z_pop (pc2 := 245) rfl rfl rfl ?_
  refine z_goto (pc2 := 1420) rfl rfl ?_
  refine z_lv (lv2 := [(3, _), (2, _), (1, _), (0, _)]) ⟨rfl, rfl, rfl, rfl, trivial⟩ ?_
  exact hB _ _ _ _ _ _ (zLw_s h f (by omega) r)
set_option maxHeartbeats 8000000 in
theorem lw_2 {L : Nat} {xs : Nat → Int32} {n sl : Nat} {T : Nat → zT} {I : Nat → Nat → Int} {P : Nat → Nat → Option Nat} {G : Nat → Nat → Int} {K : List zV → zH → Prop} {i : Int} (hL : L ≤ 3072) (h0 : 0 ≤ i) (h1 : i + 6 ≤ L) (h : zLw i n sl T I P) (hB : ∀ (n2 sl2 : Nat) (T2 : Nat → zT) (I2 : Nat → Nat → Int) (P2 : Nat → Nat → Option Nat) (G2 : Nat → Nat → Int), zLw (i + 6) n2 sl2 T2 I2 P2 → zB zMd L xs 271 1420 [(3, .inl i), (2, .inr (.inl (some 56))), (1, .inr (.inl (some 1))), (0, .inr (.inl (some 0)))] [] (n2, sl2, T2, I2, P2, G2) K) : zB zMd L xs 271 248 [(3, .inl i), (2, .inr (.inl (some 56))), (1, .inr (.inl (some 1))), (0, .inr (.inl (some 0)))] [] (n, sl, T, I, P, G) K := by
  have hn := h.1
  have hC := h.2.1
  have hT := h.2.2.1
  have t1 : T 1 = (1, 11, [1]) := hC 1 (by decide) (by decide)
  refine z_aload_n (pc2 := 249) rfl rfl rfl ?_
  refine z_aload_n (pc2 := 250) rfl rfl rfl ?_
  refine z_iload_n (pc2 := 251) rfl rfl rfl ?_
  refine z_iconst (pc2 := 252) rfl rfl ?_
  refine z_iadd (pc2 := 253) rfl rfl ?_
  refine z_sald (pc2 := 254) rfl rfl (by omega) (by omega) (by omega) (fun v1 v1e v1r => ?_)
  refine z_aload_n (pc2 := 255) rfl rfl rfl ?_
  refine z_iload_n (pc2 := 256) rfl rfl rfl ?_
  refine z_iconst (pc2 := 257) rfl rfl ?_
  refine z_iadd (pc2 := 258) rfl rfl ?_
  refine z_sald (pc2 := 259) rfl rfl (by omega) (by omega) (by omega) (fun v2 v2e v2r => ?_)
  refine z_aload_n (pc2 := 260) rfl rfl rfl ?_
  refine z_iload_n (pc2 := 261) rfl rfl rfl ?_
  refine z_iconst (pc2 := 262) rfl rfl ?_
  refine z_iadd (pc2 := 263) rfl rfl ?_
  refine z_sald (pc2 := 264) rfl rfl (by omega) (by omega) (by omega) (fun v3 v3e v3r => ?_)
  refine z_callV (y2 := 108) (as := [_, _, _]) (rest := []) (pc2 := 267) rfl rfl rfl rfl t1 rfl ?_
  refine c_TypeRoom_width hn hC v1r v2r v3r  (fun e n2 sl2 T2 I2 P2 G2 f b => ?_)
  have t56 : T2 56 = (1, 12, [1]) := zLw_T h f.1 56 (by decide) (by decide)
  show zB _ _ _ _ _ _ [_] _ _
  refine z_pop (pc2 := 268) rfl rfl rfl ?_
  refine z_aload_n (pc2 := 269) rfl rfl rfl ?_
  refine z_aload_n (pc2 := 270) rfl rfl rfl ?_
  refine z_iload_n (pc2 := 271) rfl rfl rfl ?_
  refine z_iconst (pc2 := 272) rfl rfl ?_
  refine z_iadd (pc2 := 273) rfl rfl ?_
  refine z_sald (pc2 := 274) rfl rfl (by omega) (by omega) (by omega) (fun w4 w4e w4r => ?_)
  obtain rfl : v1 = w4 := v1e.trans w4e.symm
  clear w4e w4r
  refine z_aload_n (pc2 := 275) rfl rfl rfl ?_
  refine z_iload_n (pc2 := 276) rfl rfl rfl ?_
  refine z_iconst (pc2 := 277) rfl rfl ?_
  refine z_iadd (pc2 := 278) rfl rfl ?_
  refine z_sald (pc2 := 279) rfl rfl (by omega) (by omega) (by omega) (fun w5 w5e w5r => ?_)
  obtain rfl : v2 = w5 := v2e.trans w5e.symm
  clear w5e w5r
  refine z_aload_n (pc2 := 280) rfl rfl rfl ?_
  refine z_iload_n (pc2 := 281) rfl rfl rfl ?_
  refine z_iconst (pc2 := 282) rfl rfl ?_
  refine z_iadd (pc2 := 283) rfl rfl ?_
  refine z_sald (pc2 := 284) rfl rfl (by omega) (by omega) (by omega) (fun w6 w6e w6r => ?_)
  obtain rfl : v3 = w6 := v3e.trans w6e.symm
  clear w6e w6r
  refine z_callV (y2 := 199) (as := [_, _, _]) (rest := []) (pc2 := 287) rfl rfl rfl rfl t56 rfl ?_
  refine m_width (zLw_T h f.1) v1r v2r v3r  (fun e2 I3 G3 r => ?_)
  show zB _ _ _ _ _ _ [_] _ _
  refine z_pop (pc2 := 288) rfl rfl rfl ?_
  refine z_goto (pc2 := 1420) rfl rfl ?_
  refine z_lv (lv2 := [(3, _), (2, _), (1, _), (0, _)]) ⟨rfl, rfl, rfl, rfl, trivial⟩ ?_
  exact hB _ _ _ _ _ _ (zLw_s h f (by omega) r)
set_option maxHeartbeats 8000000 in
theorem lw_3 {L : Nat} {xs : Nat → Int32} {n sl : Nat} {T : Nat → zT} {I : Nat → Nat → Int} {P : Nat → Nat → Option Nat} {G : Nat → Nat → Int} {K : List zV → zH → Prop} {i : Int} (hL : L ≤ 3072) (h0 : 0 ≤ i) (h1 : i + 6 ≤ L) (h : zLw i n sl T I P) (hB : ∀ (n2 sl2 : Nat) (T2 : Nat → zT) (I2 : Nat → Nat → Int) (P2 : Nat → Nat → Option Nat) (G2 : Nat → Nat → Int), zLw (i + 6) n2 sl2 T2 I2 P2 → zB zMd L xs 271 1420 [(3, .inl i), (2, .inr (.inl (some 56))), (1, .inr (.inl (some 1))), (0, .inr (.inl (some 0)))] [] (n2, sl2, T2, I2, P2, G2) K) : zB zMd L xs 271 291 [(3, .inl i), (2, .inr (.inl (some 56))), (1, .inr (.inl (some 1))), (0, .inr (.inl (some 0)))] [] (n, sl, T, I, P, G) K := by
  have hn := h.1
  have hC := h.2.1
  have hT := h.2.2.1
  have t1 : T 1 = (1, 11, [1]) := hC 1 (by decide) (by decide)
  refine z_aload_n (pc2 := 292) rfl rfl rfl ?_
  refine z_aload_n (pc2 := 293) rfl rfl rfl ?_
  refine z_iload_n (pc2 := 294) rfl rfl rfl ?_
  refine z_iconst (pc2 := 295) rfl rfl ?_
  refine z_iadd (pc2 := 296) rfl rfl ?_
  refine z_sald (pc2 := 297) rfl rfl (by omega) (by omega) (by omega) (fun v1 v1e v1r => ?_)
  refine z_aload_n (pc2 := 298) rfl rfl rfl ?_
  refine z_iload_n (pc2 := 299) rfl rfl rfl ?_
  refine z_iconst (pc2 := 300) rfl rfl ?_
  refine z_iadd (pc2 := 301) rfl rfl ?_
  refine z_sald (pc2 := 302) rfl rfl (by omega) (by omega) (by omega) (fun v2 v2e v2r => ?_)
  refine z_aload_n (pc2 := 303) rfl rfl rfl ?_
  refine z_iload_n (pc2 := 304) rfl rfl rfl ?_
  refine z_iconst (pc2 := 305) rfl rfl ?_
  refine z_iadd (pc2 := 306) rfl rfl ?_
  refine z_sald (pc2 := 307) rfl rfl (by omega) (by omega) (by omega) (fun v3 v3e v3r => ?_)
  refine z_callV (y2 := 109) (as := [_, _, _]) (rest := []) (pc2 := 310) rfl rfl rfl rfl t1 rfl ?_
  refine c_TypeRoom_kernRow hn hC v1r v2r v3r  (fun e n2 sl2 T2 I2 P2 G2 f b => ?_)
  have t56 : T2 56 = (1, 12, [1]) := zLw_T h f.1 56 (by decide) (by decide)
  show zB _ _ _ _ _ _ [_] _ _
  refine z_pop (pc2 := 311) rfl rfl rfl ?_
  refine z_aload_n (pc2 := 312) rfl rfl rfl ?_
  refine z_aload_n (pc2 := 313) rfl rfl rfl ?_
  refine z_iload_n (pc2 := 314) rfl rfl rfl ?_
  refine z_iconst (pc2 := 315) rfl rfl ?_
  refine z_iadd (pc2 := 316) rfl rfl ?_
  refine z_sald (pc2 := 317) rfl rfl (by omega) (by omega) (by omega) (fun w4 w4e w4r => ?_)
  obtain rfl : v1 = w4 := v1e.trans w4e.symm
  clear w4e w4r
  refine z_aload_n (pc2 := 318) rfl rfl rfl ?_
  refine z_iload_n (pc2 := 319) rfl rfl rfl ?_
  refine z_iconst (pc2 := 320) rfl rfl ?_
  refine z_iadd (pc2 := 321) rfl rfl ?_
  refine z_sald (pc2 := 322) rfl rfl (by omega) (by omega) (by omega) (fun w5 w5e w5r => ?_)
  obtain rfl : v2 = w5 := v2e.trans w5e.symm
  clear w5e w5r
  refine z_aload_n (pc2 := 323) rfl rfl rfl ?_
  refine z_iload_n (pc2 := 324) rfl rfl rfl ?_
  refine z_iconst (pc2 := 325) rfl rfl ?_
  refine z_iadd (pc2 := 326) rfl rfl ?_
  refine z_sald (pc2 := 327) rfl rfl (by omega) (by omega) (by omega) (fun w6 w6e w6r => ?_)
  obtain rfl : v3 = w6 := v3e.trans w6e.symm
  clear w6e w6r
  refine z_callV (y2 := 200) (as := [_, _, _]) (rest := []) (pc2 := 330) rfl rfl rfl rfl t56 rfl ?_
  refine m_kernRow (zLw_T h f.1) v1r v2r v3r  (fun e2 I3 G3 r => ?_)
  show zB _ _ _ _ _ _ [_] _ _
  refine z_pop (pc2 := 331) rfl rfl rfl ?_
  refine z_goto (pc2 := 1420) rfl rfl ?_
  refine z_lv (lv2 := [(3, _), (2, _), (1, _), (0, _)]) ⟨rfl, rfl, rfl, rfl, trivial⟩ ?_
  exact hB _ _ _ _ _ _ (zLw_s h f (by omega) r)
set_option maxHeartbeats 8000000 in
theorem lw_4 {L : Nat} {xs : Nat → Int32} {n sl : Nat} {T : Nat → zT} {I : Nat → Nat → Int} {P : Nat → Nat → Option Nat} {G : Nat → Nat → Int} {K : List zV → zH → Prop} {i : Int} (hL : L ≤ 3072) (h0 : 0 ≤ i) (h1 : i + 6 ≤ L) (h : zLw i n sl T I P) (hB : ∀ (n2 sl2 : Nat) (T2 : Nat → zT) (I2 : Nat → Nat → Int) (P2 : Nat → Nat → Option Nat) (G2 : Nat → Nat → Int), zLw (i + 6) n2 sl2 T2 I2 P2 → zB zMd L xs 271 1420 [(3, .inl i), (2, .inr (.inl (some 56))), (1, .inr (.inl (some 1))), (0, .inr (.inl (some 0)))] [] (n2, sl2, T2, I2, P2, G2) K) : zB zMd L xs 271 334 [(3, .inl i), (2, .inr (.inl (some 56))), (1, .inr (.inl (some 1))), (0, .inr (.inl (some 0)))] [] (n, sl, T, I, P, G) K := by
  have hn := h.1
  have hC := h.2.1
  have hT := h.2.2.1
  have t1 : T 1 = (1, 11, [1]) := hC 1 (by decide) (by decide)
  refine z_aload_n (pc2 := 335) rfl rfl rfl ?_
  refine z_aload_n (pc2 := 336) rfl rfl rfl ?_
  refine z_iload_n (pc2 := 337) rfl rfl rfl ?_
  refine z_iconst (pc2 := 338) rfl rfl ?_
  refine z_iadd (pc2 := 339) rfl rfl ?_
  refine z_sald (pc2 := 340) rfl rfl (by omega) (by omega) (by omega) (fun v1 v1e v1r => ?_)
  refine z_aload_n (pc2 := 341) rfl rfl rfl ?_
  refine z_iload_n (pc2 := 342) rfl rfl rfl ?_
  refine z_iconst (pc2 := 343) rfl rfl ?_
  refine z_iadd (pc2 := 344) rfl rfl ?_
  refine z_sald (pc2 := 345) rfl rfl (by omega) (by omega) (by omega) (fun v2 v2e v2r => ?_)
  refine z_aload_n (pc2 := 346) rfl rfl rfl ?_
  refine z_iload_n (pc2 := 347) rfl rfl rfl ?_
  refine z_iconst (pc2 := 348) rfl rfl ?_
  refine z_iadd (pc2 := 349) rfl rfl ?_
  refine z_sald (pc2 := 350) rfl rfl (by omega) (by omega) (by omega) (fun v3 v3e v3r => ?_)
  refine z_aload_n (pc2 := 351) rfl rfl rfl ?_
  refine z_iload_n (pc2 := 352) rfl rfl rfl ?_
  refine z_iconst (pc2 := 353) rfl rfl ?_
  refine z_iadd (pc2 := 354) rfl rfl ?_
  refine z_sald (pc2 := 355) rfl rfl (by omega) (by omega) (by omega) (fun v4 v4e v4r => ?_)
  refine z_callV (y2 := 110) (as := [_, _, _, _]) (rest := []) (pc2 := 358) rfl rfl rfl rfl t1 rfl ?_
  refine c_TypeRoom_kern hn hC v1r v2r v3r v4r  (fun e n2 sl2 T2 I2 P2 G2 f b => ?_)
  have t56 : T2 56 = (1, 12, [1]) := zLw_T h f.1 56 (by decide) (by decide)
  show zB _ _ _ _ _ _ [_] _ _
  refine z_pop (pc2 := 359) rfl rfl rfl ?_
  refine z_aload_n (pc2 := 360) rfl rfl rfl ?_
  refine z_aload_n (pc2 := 361) rfl rfl rfl ?_
  refine z_iload_n (pc2 := 362) rfl rfl rfl ?_
  refine z_iconst (pc2 := 363) rfl rfl ?_
  refine z_iadd (pc2 := 364) rfl rfl ?_
  refine z_sald (pc2 := 365) rfl rfl (by omega) (by omega) (by omega) (fun w5 w5e w5r => ?_)
  obtain rfl : v1 = w5 := v1e.trans w5e.symm
  clear w5e w5r
  refine z_aload_n (pc2 := 366) rfl rfl rfl ?_
  refine z_iload_n (pc2 := 367) rfl rfl rfl ?_
  refine z_iconst (pc2 := 368) rfl rfl ?_
  refine z_iadd (pc2 := 369) rfl rfl ?_
  refine z_sald (pc2 := 370) rfl rfl (by omega) (by omega) (by omega) (fun w6 w6e w6r => ?_)
  obtain rfl : v2 = w6 := v2e.trans w6e.symm
  clear w6e w6r
  refine z_aload_n (pc2 := 371) rfl rfl rfl ?_
  refine z_iload_n (pc2 := 372) rfl rfl rfl ?_
  refine z_iconst (pc2 := 373) rfl rfl ?_
  refine z_iadd (pc2 := 374) rfl rfl ?_
  refine z_sald (pc2 := 375) rfl rfl (by omega) (by omega) (by omega) (fun w7 w7e w7r => ?_)
  obtain rfl : v3 = w7 := v3e.trans w7e.symm
  clear w7e w7r
  refine z_aload_n (pc2 := 376) rfl rfl rfl ?_
  refine z_iload_n (pc2 := 377) rfl rfl rfl ?_
  refine z_iconst (pc2 := 378) rfl rfl ?_
  refine z_iadd (pc2 := 379) rfl rfl ?_
  refine z_sald (pc2 := 380) rfl rfl (by omega) (by omega) (by omega) (fun w8 w8e w8r => ?_)
  obtain rfl : v4 = w8 := v4e.trans w8e.symm
  clear w8e w8r
  refine z_callV (y2 := 201) (as := [_, _, _, _]) (rest := []) (pc2 := 383) rfl rfl rfl rfl t56 rfl ?_
  refine m_kern (zLw_T h f.1) v1r v2r v3r v4r  (fun e2 I3 G3 r => ?_)
  show zB _ _ _ _ _ _ [_] _ _
  refine z_pop (pc2 := 384) rfl rfl rfl ?_
  refine z_goto (pc2 := 1420) rfl rfl ?_
  refine z_lv (lv2 := [(3, _), (2, _), (1, _), (0, _)]) ⟨rfl, rfl, rfl, rfl, trivial⟩ ?_
  exact hB _ _ _ _ _ _ (zLw_s h f (by omega) r)
set_option maxHeartbeats 8000000 in
theorem lw_5 {L : Nat} {xs : Nat → Int32} {n sl : Nat} {T : Nat → zT} {I : Nat → Nat → Int} {P : Nat → Nat → Option Nat} {G : Nat → Nat → Int} {K : List zV → zH → Prop} {i : Int} (hL : L ≤ 3072) (h0 : 0 ≤ i) (h1 : i + 6 ≤ L) (h : zLw i n sl T I P) (hB : ∀ (n2 sl2 : Nat) (T2 : Nat → zT) (I2 : Nat → Nat → Int) (P2 : Nat → Nat → Option Nat) (G2 : Nat → Nat → Int), zLw (i + 6) n2 sl2 T2 I2 P2 → zB zMd L xs 271 1420 [(3, .inl i), (2, .inr (.inl (some 56))), (1, .inr (.inl (some 1))), (0, .inr (.inl (some 0)))] [] (n2, sl2, T2, I2, P2, G2) K) : zB zMd L xs 271 387 [(3, .inl i), (2, .inr (.inl (some 56))), (1, .inr (.inl (some 1))), (0, .inr (.inl (some 0)))] [] (n, sl, T, I, P, G) K := by
  have hn := h.1
  have hC := h.2.1
  have hT := h.2.2.1
  have t1 : T 1 = (1, 11, [1]) := hC 1 (by decide) (by decide)
  refine z_aload_n (pc2 := 388) rfl rfl rfl ?_
  refine z_aload_n (pc2 := 389) rfl rfl rfl ?_
  refine z_iload_n (pc2 := 390) rfl rfl rfl ?_
  refine z_iconst (pc2 := 391) rfl rfl ?_
  refine z_iadd (pc2 := 392) rfl rfl ?_
  refine z_sald (pc2 := 393) rfl rfl (by omega) (by omega) (by omega) (fun v1 v1e v1r => ?_)
  refine z_aload_n (pc2 := 394) rfl rfl rfl ?_
  refine z_iload_n (pc2 := 395) rfl rfl rfl ?_
  refine z_iconst (pc2 := 396) rfl rfl ?_
  refine z_iadd (pc2 := 397) rfl rfl ?_
  refine z_sald (pc2 := 398) rfl rfl (by omega) (by omega) (by omega) (fun v2 v2e v2r => ?_)
  refine z_aload_n (pc2 := 399) rfl rfl rfl ?_
  refine z_iload_n (pc2 := 400) rfl rfl rfl ?_
  refine z_iconst (pc2 := 401) rfl rfl ?_
  refine z_iadd (pc2 := 402) rfl rfl ?_
  refine z_sald (pc2 := 403) rfl rfl (by omega) (by omega) (by omega) (fun v3 v3e v3r => ?_)
  refine z_aload_n (pc2 := 404) rfl rfl rfl ?_
  refine z_iload_n (pc2 := 405) rfl rfl rfl ?_
  refine z_iconst (pc2 := 406) rfl rfl ?_
  refine z_iadd (pc2 := 407) rfl rfl ?_
  refine z_sald (pc2 := 408) rfl rfl (by omega) (by omega) (by omega) (fun v4 v4e v4r => ?_)
  refine z_aload_n (pc2 := 409) rfl rfl rfl ?_
  refine z_iload_n (pc2 := 410) rfl rfl rfl ?_
  refine z_iconst (pc2 := 411) rfl rfl ?_
  refine z_iadd (pc2 := 412) rfl rfl ?_
  refine z_sald (pc2 := 413) rfl rfl (by omega) (by omega) (by omega) (fun v5 v5e v5r => ?_)
  refine z_callV (y2 := 111) (as := [_, _, _, _, _]) (rest := []) (pc2 := 416) rfl rfl rfl rfl t1 rfl ?_
  refine c_TypeRoom_join hn hC v1r v2r v3r v4r v5r  (fun e n2 sl2 T2 I2 P2 G2 f b => ?_)
  have t56 : T2 56 = (1, 12, [1]) := zLw_T h f.1 56 (by decide) (by decide)
  show zB _ _ _ _ _ _ [_] _ _
  refine z_pop (pc2 := 417) rfl rfl rfl ?_
  refine z_aload_n (pc2 := 418) rfl rfl rfl ?_
  refine z_aload_n (pc2 := 419) rfl rfl rfl ?_
  refine z_iload_n (pc2 := 420) rfl rfl rfl ?_
  refine z_iconst (pc2 := 421) rfl rfl ?_
  refine z_iadd (pc2 := 422) rfl rfl ?_
  refine z_sald (pc2 := 423) rfl rfl (by omega) (by omega) (by omega) (fun w6 w6e w6r => ?_)
  obtain rfl : v1 = w6 := v1e.trans w6e.symm
  clear w6e w6r
  refine z_aload_n (pc2 := 424) rfl rfl rfl ?_
  refine z_iload_n (pc2 := 425) rfl rfl rfl ?_
  refine z_iconst (pc2 := 426) rfl rfl ?_
  refine z_iadd (pc2 := 427) rfl rfl ?_
  refine z_sald (pc2 := 428) rfl rfl (by omega) (by omega) (by omega) (fun w7 w7e w7r => ?_)
  obtain rfl : v2 = w7 := v2e.trans w7e.symm
  clear w7e w7r
  refine z_aload_n (pc2 := 429) rfl rfl rfl ?_
  refine z_iload_n (pc2 := 430) rfl rfl rfl ?_
  refine z_iconst (pc2 := 431) rfl rfl ?_
  refine z_iadd (pc2 := 432) rfl rfl ?_
  refine z_sald (pc2 := 433) rfl rfl (by omega) (by omega) (by omega) (fun w8 w8e w8r => ?_)
  obtain rfl : v3 = w8 := v3e.trans w8e.symm
  clear w8e w8r
  refine z_aload_n (pc2 := 434) rfl rfl rfl ?_
  refine z_iload_n (pc2 := 435) rfl rfl rfl ?_
  refine z_iconst (pc2 := 436) rfl rfl ?_
  refine z_iadd (pc2 := 437) rfl rfl ?_
  refine z_sald (pc2 := 438) rfl rfl (by omega) (by omega) (by omega) (fun w9 w9e w9r => ?_)
  obtain rfl : v4 = w9 := v4e.trans w9e.symm
  clear w9e w9r
  refine z_aload_n (pc2 := 439) rfl rfl rfl ?_
  refine z_iload_n (pc2 := 440) rfl rfl rfl ?_
  refine z_iconst (pc2 := 441) rfl rfl ?_
  refine z_iadd (pc2 := 442) rfl rfl ?_
  refine z_sald (pc2 := 443) rfl rfl (by omega) (by omega) (by omega) (fun w10 w10e w10r => ?_)
  obtain rfl : v5 = w10 := v5e.trans w10e.symm
  clear w10e w10r
  refine z_callV (y2 := 202) (as := [_, _, _, _, _]) (rest := []) (pc2 := 446) rfl rfl rfl rfl t56 rfl ?_
  refine m_join (zLw_T h f.1) v1r v2r v3r v4r v5r  (fun e2 I3 G3 r => ?_)
  show zB _ _ _ _ _ _ [_] _ _
  refine z_pop (pc2 := 447) rfl rfl rfl ?_
  refine z_goto (pc2 := 1420) rfl rfl ?_
  refine z_lv (lv2 := [(3, _), (2, _), (1, _), (0, _)]) ⟨rfl, rfl, rfl, rfl, trivial⟩ ?_
  exact hB _ _ _ _ _ _ (zLw_s h f (by omega) r)
set_option maxHeartbeats 8000000 in
theorem lw_6 {L : Nat} {xs : Nat → Int32} {n sl : Nat} {T : Nat → zT} {I : Nat → Nat → Int} {P : Nat → Nat → Option Nat} {G : Nat → Nat → Int} {K : List zV → zH → Prop} {i : Int} (hL : L ≤ 3072) (h0 : 0 ≤ i) (h1 : i + 6 ≤ L) (h : zLw i n sl T I P) (hB : ∀ (n2 sl2 : Nat) (T2 : Nat → zT) (I2 : Nat → Nat → Int) (P2 : Nat → Nat → Option Nat) (G2 : Nat → Nat → Int), zLw (i + 6) n2 sl2 T2 I2 P2 → zB zMd L xs 271 1420 [(3, .inl i), (2, .inr (.inl (some 56))), (1, .inr (.inl (some 1))), (0, .inr (.inl (some 0)))] [] (n2, sl2, T2, I2, P2, G2) K) : zB zMd L xs 271 450 [(3, .inl i), (2, .inr (.inl (some 56))), (1, .inr (.inl (some 1))), (0, .inr (.inl (some 0)))] [] (n, sl, T, I, P, G) K := by
  have hn := h.1
  have hC := h.2.1
  have hT := h.2.2.1
  have t1 : T 1 = (1, 11, [1]) := hC 1 (by decide) (by decide)
  refine z_aload_n (pc2 := 451) rfl rfl rfl ?_
  refine z_aload_n (pc2 := 452) rfl rfl rfl ?_
  refine z_iload_n (pc2 := 453) rfl rfl rfl ?_
  refine z_iconst (pc2 := 454) rfl rfl ?_
  refine z_iadd (pc2 := 455) rfl rfl ?_
  refine z_sald (pc2 := 456) rfl rfl (by omega) (by omega) (by omega) (fun v1 v1e v1r => ?_)
  refine z_aload_n (pc2 := 457) rfl rfl rfl ?_
  refine z_iload_n (pc2 := 458) rfl rfl rfl ?_
  refine z_iconst (pc2 := 459) rfl rfl ?_
  refine z_iadd (pc2 := 460) rfl rfl ?_
  refine z_sald (pc2 := 461) rfl rfl (by omega) (by omega) (by omega) (fun v2 v2e v2r => ?_)
  refine z_aload_n (pc2 := 462) rfl rfl rfl ?_
  refine z_iload_n (pc2 := 463) rfl rfl rfl ?_
  refine z_iconst (pc2 := 464) rfl rfl ?_
  refine z_iadd (pc2 := 465) rfl rfl ?_
  refine z_sald (pc2 := 466) rfl rfl (by omega) (by omega) (by omega) (fun v3 v3e v3r => ?_)
  refine z_callV (y2 := 112) (as := [_, _, _]) (rest := []) (pc2 := 469) rfl rfl rfl rfl t1 rfl ?_
  refine c_TypeRoom_ornament hn hC v1r v2r v3r  (fun e n2 sl2 T2 I2 P2 G2 f b => ?_)
  have t56 : T2 56 = (1, 12, [1]) := zLw_T h f.1 56 (by decide) (by decide)
  show zB _ _ _ _ _ _ [_] _ _
  refine z_pop (pc2 := 470) rfl rfl rfl ?_
  refine z_aload_n (pc2 := 471) rfl rfl rfl ?_
  refine z_aload_n (pc2 := 472) rfl rfl rfl ?_
  refine z_iload_n (pc2 := 473) rfl rfl rfl ?_
  refine z_iconst (pc2 := 474) rfl rfl ?_
  refine z_iadd (pc2 := 475) rfl rfl ?_
  refine z_sald (pc2 := 476) rfl rfl (by omega) (by omega) (by omega) (fun w4 w4e w4r => ?_)
  obtain rfl : v1 = w4 := v1e.trans w4e.symm
  clear w4e w4r
  refine z_aload_n (pc2 := 477) rfl rfl rfl ?_
  refine z_iload_n (pc2 := 478) rfl rfl rfl ?_
  refine z_iconst (pc2 := 479) rfl rfl ?_
  refine z_iadd (pc2 := 480) rfl rfl ?_
  refine z_sald (pc2 := 481) rfl rfl (by omega) (by omega) (by omega) (fun w5 w5e w5r => ?_)
  obtain rfl : v2 = w5 := v2e.trans w5e.symm
  clear w5e w5r
  refine z_aload_n (pc2 := 482) rfl rfl rfl ?_
  refine z_iload_n (pc2 := 483) rfl rfl rfl ?_
  refine z_iconst (pc2 := 484) rfl rfl ?_
  refine z_iadd (pc2 := 485) rfl rfl ?_
  refine z_sald (pc2 := 486) rfl rfl (by omega) (by omega) (by omega) (fun w6 w6e w6r => ?_)
  obtain rfl : v3 = w6 := v3e.trans w6e.symm
  clear w6e w6r
  refine z_callV (y2 := 203) (as := [_, _, _]) (rest := []) (pc2 := 489) rfl rfl rfl rfl t56 rfl ?_
  refine m_ornament (zLw_T h f.1) v1r v2r v3r  (fun e2 I3 G3 r => ?_)
  show zB _ _ _ _ _ _ [_] _ _
  refine z_pop (pc2 := 490) rfl rfl rfl ?_
  refine z_goto (pc2 := 1420) rfl rfl ?_
  refine z_lv (lv2 := [(3, _), (2, _), (1, _), (0, _)]) ⟨rfl, rfl, rfl, rfl, trivial⟩ ?_
  exact hB _ _ _ _ _ _ (zLw_s h f (by omega) r)
set_option maxHeartbeats 8000000 in
theorem lw_7 {L : Nat} {xs : Nat → Int32} {n sl : Nat} {T : Nat → zT} {I : Nat → Nat → Int} {P : Nat → Nat → Option Nat} {G : Nat → Nat → Int} {K : List zV → zH → Prop} {i : Int} (hL : L ≤ 3072) (h0 : 0 ≤ i) (h1 : i + 6 ≤ L) (h : zLw i n sl T I P) (hB : ∀ (n2 sl2 : Nat) (T2 : Nat → zT) (I2 : Nat → Nat → Int) (P2 : Nat → Nat → Option Nat) (G2 : Nat → Nat → Int), zLw (i + 6) n2 sl2 T2 I2 P2 → zB zMd L xs 271 1420 [(3, .inl i), (2, .inr (.inl (some 56))), (1, .inr (.inl (some 1))), (0, .inr (.inl (some 0)))] [] (n2, sl2, T2, I2, P2, G2) K) : zB zMd L xs 271 493 [(3, .inl i), (2, .inr (.inl (some 56))), (1, .inr (.inl (some 1))), (0, .inr (.inl (some 0)))] [] (n, sl, T, I, P, G) K := by
  have hn := h.1
  have hC := h.2.1
  have hT := h.2.2.1
  have t1 : T 1 = (1, 11, [1]) := hC 1 (by decide) (by decide)
  refine z_aload_n (pc2 := 494) rfl rfl rfl ?_
  refine z_aload_n (pc2 := 495) rfl rfl rfl ?_
  refine z_iload_n (pc2 := 496) rfl rfl rfl ?_
  refine z_iconst (pc2 := 497) rfl rfl ?_
  refine z_iadd (pc2 := 498) rfl rfl ?_
  refine z_sald (pc2 := 499) rfl rfl (by omega) (by omega) (by omega) (fun v1 v1e v1r => ?_)
  refine z_aload_n (pc2 := 500) rfl rfl rfl ?_
  refine z_iload_n (pc2 := 501) rfl rfl rfl ?_
  refine z_iconst (pc2 := 502) rfl rfl ?_
  refine z_iadd (pc2 := 503) rfl rfl ?_
  refine z_sald (pc2 := 504) rfl rfl (by omega) (by omega) (by omega) (fun v2 v2e v2r => ?_)
  refine z_aload_n (pc2 := 505) rfl rfl rfl ?_
  refine z_iload_n (pc2 := 506) rfl rfl rfl ?_
  refine z_iconst (pc2 := 507) rfl rfl ?_
  refine z_iadd (pc2 := 508) rfl rfl ?_
  refine z_sald (pc2 := 509) rfl rfl (by omega) (by omega) (by omega) (fun v3 v3e v3r => ?_)
  refine z_aload_n (pc2 := 510) rfl rfl rfl ?_
  refine z_iload_n (pc2 := 511) rfl rfl rfl ?_
  refine z_iconst (pc2 := 512) rfl rfl ?_
  refine z_iadd (pc2 := 513) rfl rfl ?_
  refine z_sald (pc2 := 514) rfl rfl (by omega) (by omega) (by omega) (fun v4 v4e v4r => ?_)
  refine z_aload_n (pc2 := 515) rfl rfl rfl ?_
  refine z_iload_n (pc2 := 516) rfl rfl rfl ?_
  refine z_iconst (pc2 := 517) rfl rfl ?_
  refine z_iadd (pc2 := 518) rfl rfl ?_
  refine z_sald (pc2 := 519) rfl rfl (by omega) (by omega) (by omega) (fun v5 v5e v5r => ?_)
  refine z_callV (y2 := 113) (as := [_, _, _, _, _]) (rest := []) (pc2 := 522) rfl rfl rfl rfl t1 rfl ?_
  refine c_TypeRoom_spacing hn hC v1r v2r v3r v4r v5r  (fun e n2 sl2 T2 I2 P2 G2 f b => ?_)
  have t56 : T2 56 = (1, 12, [1]) := zLw_T h f.1 56 (by decide) (by decide)
  show zB _ _ _ _ _ _ [_] _ _
  refine z_pop (pc2 := 523) rfl rfl rfl ?_
  refine z_aload_n (pc2 := 524) rfl rfl rfl ?_
  refine z_aload_n (pc2 := 525) rfl rfl rfl ?_
  refine z_iload_n (pc2 := 526) rfl rfl rfl ?_
  refine z_iconst (pc2 := 527) rfl rfl ?_
  refine z_iadd (pc2 := 528) rfl rfl ?_
  refine z_sald (pc2 := 529) rfl rfl (by omega) (by omega) (by omega) (fun w6 w6e w6r => ?_)
  obtain rfl : v1 = w6 := v1e.trans w6e.symm
  clear w6e w6r
  refine z_aload_n (pc2 := 530) rfl rfl rfl ?_
  refine z_iload_n (pc2 := 531) rfl rfl rfl ?_
  refine z_iconst (pc2 := 532) rfl rfl ?_
  refine z_iadd (pc2 := 533) rfl rfl ?_
  refine z_sald (pc2 := 534) rfl rfl (by omega) (by omega) (by omega) (fun w7 w7e w7r => ?_)
  obtain rfl : v2 = w7 := v2e.trans w7e.symm
  clear w7e w7r
  refine z_aload_n (pc2 := 535) rfl rfl rfl ?_
  refine z_iload_n (pc2 := 536) rfl rfl rfl ?_
  refine z_iconst (pc2 := 537) rfl rfl ?_
  refine z_iadd (pc2 := 538) rfl rfl ?_
  refine z_sald (pc2 := 539) rfl rfl (by omega) (by omega) (by omega) (fun w8 w8e w8r => ?_)
  obtain rfl : v3 = w8 := v3e.trans w8e.symm
  clear w8e w8r
  refine z_aload_n (pc2 := 540) rfl rfl rfl ?_
  refine z_iload_n (pc2 := 541) rfl rfl rfl ?_
  refine z_iconst (pc2 := 542) rfl rfl ?_
  refine z_iadd (pc2 := 543) rfl rfl ?_
  refine z_sald (pc2 := 544) rfl rfl (by omega) (by omega) (by omega) (fun w9 w9e w9r => ?_)
  obtain rfl : v4 = w9 := v4e.trans w9e.symm
  clear w9e w9r
  refine z_aload_n (pc2 := 545) rfl rfl rfl ?_
  refine z_iload_n (pc2 := 546) rfl rfl rfl ?_
  refine z_iconst (pc2 := 547) rfl rfl ?_
  refine z_iadd (pc2 := 548) rfl rfl ?_
  refine z_sald (pc2 := 549) rfl rfl (by omega) (by omega) (by omega) (fun w10 w10e w10r => ?_)
  obtain rfl : v5 = w10 := v5e.trans w10e.symm
  clear w10e w10r
  refine z_callV (y2 := 204) (as := [_, _, _, _, _]) (rest := []) (pc2 := 552) rfl rfl rfl rfl t56 rfl ?_
  refine m_spacing (zLw_T h f.1) v1r v2r v3r v4r v5r  (fun e2 I3 G3 r => ?_)
  show zB _ _ _ _ _ _ [_] _ _
  refine z_pop (pc2 := 553) rfl rfl rfl ?_
  refine z_goto (pc2 := 1420) rfl rfl ?_
  refine z_lv (lv2 := [(3, _), (2, _), (1, _), (0, _)]) ⟨rfl, rfl, rfl, rfl, trivial⟩ ?_
  exact hB _ _ _ _ _ _ (zLw_s h f (by omega) r)
set_option maxHeartbeats 8000000 in
theorem lw_8 {L : Nat} {xs : Nat → Int32} {n sl : Nat} {T : Nat → zT} {I : Nat → Nat → Int} {P : Nat → Nat → Option Nat} {G : Nat → Nat → Int} {K : List zV → zH → Prop} {i : Int} (hL : L ≤ 3072) (h0 : 0 ≤ i) (h1 : i + 6 ≤ L) (h : zLw i n sl T I P) (hB : ∀ (n2 sl2 : Nat) (T2 : Nat → zT) (I2 : Nat → Nat → Int) (P2 : Nat → Nat → Option Nat) (G2 : Nat → Nat → Int), zLw (i + 6) n2 sl2 T2 I2 P2 → zB zMd L xs 271 1420 [(3, .inl i), (2, .inr (.inl (some 56))), (1, .inr (.inl (some 1))), (0, .inr (.inl (some 0)))] [] (n2, sl2, T2, I2, P2, G2) K) : zB zMd L xs 271 556 [(3, .inl i), (2, .inr (.inl (some 56))), (1, .inr (.inl (some 1))), (0, .inr (.inl (some 0)))] [] (n, sl, T, I, P, G) K := by
  have hn := h.1
  have hC := h.2.1
  have hT := h.2.2.1
  have t1 : T 1 = (1, 11, [1]) := hC 1 (by decide) (by decide)
  refine z_aload_n (pc2 := 557) rfl rfl rfl ?_
  refine z_aload_n (pc2 := 558) rfl rfl rfl ?_
  refine z_iload_n (pc2 := 559) rfl rfl rfl ?_
  refine z_iconst (pc2 := 560) rfl rfl ?_
  refine z_iadd (pc2 := 561) rfl rfl ?_
  refine z_sald (pc2 := 562) rfl rfl (by omega) (by omega) (by omega) (fun v1 v1e v1r => ?_)
  refine z_aload_n (pc2 := 563) rfl rfl rfl ?_
  refine z_iload_n (pc2 := 564) rfl rfl rfl ?_
  refine z_iconst (pc2 := 565) rfl rfl ?_
  refine z_iadd (pc2 := 566) rfl rfl ?_
  refine z_sald (pc2 := 567) rfl rfl (by omega) (by omega) (by omega) (fun v2 v2e v2r => ?_)
  refine z_aload_n (pc2 := 568) rfl rfl rfl ?_
  refine z_iload_n (pc2 := 569) rfl rfl rfl ?_
  refine z_iconst (pc2 := 570) rfl rfl ?_
  refine z_iadd (pc2 := 571) rfl rfl ?_
  refine z_sald (pc2 := 572) rfl rfl (by omega) (by omega) (by omega) (fun v3 v3e v3r => ?_)
  refine z_aload_n (pc2 := 573) rfl rfl rfl ?_
  refine z_iload_n (pc2 := 574) rfl rfl rfl ?_
  refine z_iconst (pc2 := 575) rfl rfl ?_
  refine z_iadd (pc2 := 576) rfl rfl ?_
  refine z_sald (pc2 := 577) rfl rfl (by omega) (by omega) (by omega) (fun v4 v4e v4r => ?_)
  refine z_callV (y2 := 114) (as := [_, _, _, _]) (rest := []) (pc2 := 580) rfl rfl rfl rfl t1 rfl ?_
  refine c_TypeRoom_buy hn hC v1r v2r v3r v4r  (fun e n2 sl2 T2 I2 P2 G2 f b => ?_)
  have t56 : T2 56 = (1, 12, [1]) := zLw_T h f.1 56 (by decide) (by decide)
  show zB _ _ _ _ _ _ [_] _ _
  refine z_pop (pc2 := 581) rfl rfl rfl ?_
  refine z_aload_n (pc2 := 582) rfl rfl rfl ?_
  refine z_aload_n (pc2 := 583) rfl rfl rfl ?_
  refine z_iload_n (pc2 := 584) rfl rfl rfl ?_
  refine z_iconst (pc2 := 585) rfl rfl ?_
  refine z_iadd (pc2 := 586) rfl rfl ?_
  refine z_sald (pc2 := 587) rfl rfl (by omega) (by omega) (by omega) (fun w5 w5e w5r => ?_)
  obtain rfl : v1 = w5 := v1e.trans w5e.symm
  clear w5e w5r
  refine z_aload_n (pc2 := 588) rfl rfl rfl ?_
  refine z_iload_n (pc2 := 589) rfl rfl rfl ?_
  refine z_iconst (pc2 := 590) rfl rfl ?_
  refine z_iadd (pc2 := 591) rfl rfl ?_
  refine z_sald (pc2 := 592) rfl rfl (by omega) (by omega) (by omega) (fun w6 w6e w6r => ?_)
  obtain rfl : v2 = w6 := v2e.trans w6e.symm
  clear w6e w6r
  refine z_aload_n (pc2 := 593) rfl rfl rfl ?_
  refine z_iload_n (pc2 := 594) rfl rfl rfl ?_
  refine z_iconst (pc2 := 595) rfl rfl ?_
  refine z_iadd (pc2 := 596) rfl rfl ?_
  refine z_sald (pc2 := 597) rfl rfl (by omega) (by omega) (by omega) (fun w7 w7e w7r => ?_)
  obtain rfl : v3 = w7 := v3e.trans w7e.symm
  clear w7e w7r
  refine z_aload_n (pc2 := 598) rfl rfl rfl ?_
  refine z_iload_n (pc2 := 599) rfl rfl rfl ?_
  refine z_iconst (pc2 := 600) rfl rfl ?_
  refine z_iadd (pc2 := 601) rfl rfl ?_
  refine z_sald (pc2 := 602) rfl rfl (by omega) (by omega) (by omega) (fun w8 w8e w8r => ?_)
  obtain rfl : v4 = w8 := v4e.trans w8e.symm
  clear w8e w8r
  refine z_callV (y2 := 206) (as := [_, _, _, _]) (rest := []) (pc2 := 605) rfl rfl rfl rfl t56 rfl ?_
  refine m_buy (zLw_T h f.1) v1r v2r v3r v4r  (fun e2 I3 G3 r => ?_)
  show zB _ _ _ _ _ _ [_] _ _
  refine z_pop (pc2 := 606) rfl rfl rfl ?_
  refine z_goto (pc2 := 1420) rfl rfl ?_
  refine z_lv (lv2 := [(3, _), (2, _), (1, _), (0, _)]) ⟨rfl, rfl, rfl, rfl, trivial⟩ ?_
  exact hB _ _ _ _ _ _ (zLw_s h f (by omega) r)
set_option maxHeartbeats 8000000 in
theorem lw_9 {L : Nat} {xs : Nat → Int32} {n sl : Nat} {T : Nat → zT} {I : Nat → Nat → Int} {P : Nat → Nat → Option Nat} {G : Nat → Nat → Int} {K : List zV → zH → Prop} {i : Int} (hL : L ≤ 3072) (h0 : 0 ≤ i) (h1 : i + 6 ≤ L) (h : zLw i n sl T I P) (hB : ∀ (n2 sl2 : Nat) (T2 : Nat → zT) (I2 : Nat → Nat → Int) (P2 : Nat → Nat → Option Nat) (G2 : Nat → Nat → Int), zLw (i + 6) n2 sl2 T2 I2 P2 → zB zMd L xs 271 1420 [(3, .inl i), (2, .inr (.inl (some 56))), (1, .inr (.inl (some 1))), (0, .inr (.inl (some 0)))] [] (n2, sl2, T2, I2, P2, G2) K) : zB zMd L xs 271 609 [(3, .inl i), (2, .inr (.inl (some 56))), (1, .inr (.inl (some 1))), (0, .inr (.inl (some 0)))] [] (n, sl, T, I, P, G) K := by
  have hn := h.1
  have hC := h.2.1
  have hT := h.2.2.1
  have t1 : T 1 = (1, 11, [1]) := hC 1 (by decide) (by decide)
  refine z_aload_n (pc2 := 610) rfl rfl rfl ?_
  refine z_aload_n (pc2 := 611) rfl rfl rfl ?_
  refine z_iload_n (pc2 := 612) rfl rfl rfl ?_
  refine z_iconst (pc2 := 613) rfl rfl ?_
  refine z_iadd (pc2 := 614) rfl rfl ?_
  refine z_sald (pc2 := 615) rfl rfl (by omega) (by omega) (by omega) (fun v1 v1e v1r => ?_)
  refine z_aload_n (pc2 := 616) rfl rfl rfl ?_
  refine z_iload_n (pc2 := 617) rfl rfl rfl ?_
  refine z_iconst (pc2 := 618) rfl rfl ?_
  refine z_iadd (pc2 := 619) rfl rfl ?_
  refine z_sald (pc2 := 620) rfl rfl (by omega) (by omega) (by omega) (fun v2 v2e v2r => ?_)
  refine z_callV (y2 := 115) (as := [_, _]) (rest := []) (pc2 := 623) rfl rfl rfl rfl t1 rfl ?_
  refine c_TypeRoom_text hn hC v1r v2r  (fun e n2 sl2 T2 I2 P2 G2 f b => ?_)
  have t56 : T2 56 = (1, 12, [1]) := zLw_T h f.1 56 (by decide) (by decide)
  show zB _ _ _ _ _ _ [_] _ _
  refine z_pop (pc2 := 624) rfl rfl rfl ?_
  refine z_aload_n (pc2 := 625) rfl rfl rfl ?_
  refine z_aload_n (pc2 := 626) rfl rfl rfl ?_
  refine z_iload_n (pc2 := 627) rfl rfl rfl ?_
  refine z_iconst (pc2 := 628) rfl rfl ?_
  refine z_iadd (pc2 := 629) rfl rfl ?_
  refine z_sald (pc2 := 630) rfl rfl (by omega) (by omega) (by omega) (fun w3 w3e w3r => ?_)
  obtain rfl : v1 = w3 := v1e.trans w3e.symm
  clear w3e w3r
  refine z_aload_n (pc2 := 631) rfl rfl rfl ?_
  refine z_iload_n (pc2 := 632) rfl rfl rfl ?_
  refine z_iconst (pc2 := 633) rfl rfl ?_
  refine z_iadd (pc2 := 634) rfl rfl ?_
  refine z_sald (pc2 := 635) rfl rfl (by omega) (by omega) (by omega) (fun w4 w4e w4r => ?_)
  obtain rfl : v2 = w4 := v2e.trans w4e.symm
  clear w4e w4r
  refine z_callV (y2 := 208) (as := [_, _]) (rest := []) (pc2 := 638) rfl rfl rfl rfl t56 rfl ?_
  refine m_text (zLw_T h f.1) v1r v2r  (fun e2 I3 G3 r => ?_)
  show zB _ _ _ _ _ _ [_] _ _
  refine z_pop (pc2 := 639) rfl rfl rfl ?_
  refine z_goto (pc2 := 1420) rfl rfl ?_
  refine z_lv (lv2 := [(3, _), (2, _), (1, _), (0, _)]) ⟨rfl, rfl, rfl, rfl, trivial⟩ ?_
  exact hB _ _ _ _ _ _ (zLw_s h f (by omega) r)
set_option maxHeartbeats 8000000 in
theorem lw_10 {L : Nat} {xs : Nat → Int32} {n sl : Nat} {T : Nat → zT} {I : Nat → Nat → Int} {P : Nat → Nat → Option Nat} {G : Nat → Nat → Int} {K : List zV → zH → Prop} {i : Int} (hL : L ≤ 3072) (h0 : 0 ≤ i) (h1 : i + 6 ≤ L) (h : zLw i n sl T I P) (hB : ∀ (n2 sl2 : Nat) (T2 : Nat → zT) (I2 : Nat → Nat → Int) (P2 : Nat → Nat → Option Nat) (G2 : Nat → Nat → Int), zLw (i + 6) n2 sl2 T2 I2 P2 → zB zMd L xs 271 1420 [(3, .inl i), (2, .inr (.inl (some 56))), (1, .inr (.inl (some 1))), (0, .inr (.inl (some 0)))] [] (n2, sl2, T2, I2, P2, G2) K) : zB zMd L xs 271 642 [(3, .inl i), (2, .inr (.inl (some 56))), (1, .inr (.inl (some 1))), (0, .inr (.inl (some 0)))] [] (n, sl, T, I, P, G) K := by
  have hn := h.1
  have hC := h.2.1
  have hT := h.2.2.1
  have t1 : T 1 = (1, 11, [1]) := hC 1 (by decide) (by decide)
  refine z_aload_n (pc2 := 643) rfl rfl rfl ?_
  refine z_aload_n (pc2 := 644) rfl rfl rfl ?_
  refine z_iload_n (pc2 := 645) rfl rfl rfl ?_
  refine z_iconst (pc2 := 646) rfl rfl ?_
  refine z_iadd (pc2 := 647) rfl rfl ?_
  refine z_sald (pc2 := 648) rfl rfl (by omega) (by omega) (by omega) (fun v1 v1e v1r => ?_)
  refine z_aload_n (pc2 := 649) rfl rfl rfl ?_
  refine z_iload_n (pc2 := 650) rfl rfl rfl ?_
  refine z_iconst (pc2 := 651) rfl rfl ?_
  refine z_iadd (pc2 := 652) rfl rfl ?_
  refine z_sald (pc2 := 653) rfl rfl (by omega) (by omega) (by omega) (fun v2 v2e v2r => ?_)
  refine z_aload_n (pc2 := 654) rfl rfl rfl ?_
  refine z_iload_n (pc2 := 655) rfl rfl rfl ?_
  refine z_iconst (pc2 := 656) rfl rfl ?_
  refine z_iadd (pc2 := 657) rfl rfl ?_
  refine z_sald (pc2 := 658) rfl rfl (by omega) (by omega) (by omega) (fun v3 v3e v3r => ?_)
  refine z_callV (y2 := 116) (as := [_, _, _]) (rest := []) (pc2 := 661) rfl rfl rfl rfl t1 rfl ?_
  refine c_TypeRoom_sign hn hC v1r v2r v3r  (fun e n2 sl2 T2 I2 P2 G2 f b => ?_)
  have t56 : T2 56 = (1, 12, [1]) := zLw_T h f.1 56 (by decide) (by decide)
  show zB _ _ _ _ _ _ [_] _ _
  refine z_pop (pc2 := 662) rfl rfl rfl ?_
  refine z_aload_n (pc2 := 663) rfl rfl rfl ?_
  refine z_aload_n (pc2 := 664) rfl rfl rfl ?_
  refine z_iload_n (pc2 := 665) rfl rfl rfl ?_
  refine z_iconst (pc2 := 666) rfl rfl ?_
  refine z_iadd (pc2 := 667) rfl rfl ?_
  refine z_sald (pc2 := 668) rfl rfl (by omega) (by omega) (by omega) (fun w4 w4e w4r => ?_)
  obtain rfl : v1 = w4 := v1e.trans w4e.symm
  clear w4e w4r
  refine z_aload_n (pc2 := 669) rfl rfl rfl ?_
  refine z_iload_n (pc2 := 670) rfl rfl rfl ?_
  refine z_iconst (pc2 := 671) rfl rfl ?_
  refine z_iadd (pc2 := 672) rfl rfl ?_
  refine z_sald (pc2 := 673) rfl rfl (by omega) (by omega) (by omega) (fun w5 w5e w5r => ?_)
  obtain rfl : v2 = w5 := v2e.trans w5e.symm
  clear w5e w5r
  refine z_aload_n (pc2 := 674) rfl rfl rfl ?_
  refine z_iload_n (pc2 := 675) rfl rfl rfl ?_
  refine z_iconst (pc2 := 676) rfl rfl ?_
  refine z_iadd (pc2 := 677) rfl rfl ?_
  refine z_sald (pc2 := 678) rfl rfl (by omega) (by omega) (by omega) (fun w6 w6e w6r => ?_)
  obtain rfl : v3 = w6 := v3e.trans w6e.symm
  clear w6e w6r
  refine z_callV (y2 := 209) (as := [_, _, _]) (rest := []) (pc2 := 681) rfl rfl rfl rfl t56 rfl ?_
  refine m_sign (zLw_T h f.1) v1r v2r v3r  (fun e2 I3 G3 r => ?_)
  show zB _ _ _ _ _ _ [_] _ _
  refine z_pop (pc2 := 682) rfl rfl rfl ?_
  refine z_goto (pc2 := 1420) rfl rfl ?_
  refine z_lv (lv2 := [(3, _), (2, _), (1, _), (0, _)]) ⟨rfl, rfl, rfl, rfl, trivial⟩ ?_
  exact hB _ _ _ _ _ _ (zLw_s h f (by omega) r)
set_option maxHeartbeats 8000000 in
theorem lw_11 {L : Nat} {xs : Nat → Int32} {n sl : Nat} {T : Nat → zT} {I : Nat → Nat → Int} {P : Nat → Nat → Option Nat} {G : Nat → Nat → Int} {K : List zV → zH → Prop} {i : Int} (hL : L ≤ 3072) (h0 : 0 ≤ i) (h1 : i + 6 ≤ L) (h : zLw i n sl T I P) (hB : ∀ (n2 sl2 : Nat) (T2 : Nat → zT) (I2 : Nat → Nat → Int) (P2 : Nat → Nat → Option Nat) (G2 : Nat → Nat → Int), zLw (i + 6) n2 sl2 T2 I2 P2 → zB zMd L xs 271 1420 [(3, .inl i), (2, .inr (.inl (some 56))), (1, .inr (.inl (some 1))), (0, .inr (.inl (some 0)))] [] (n2, sl2, T2, I2, P2, G2) K) : zB zMd L xs 271 685 [(3, .inl i), (2, .inr (.inl (some 56))), (1, .inr (.inl (some 1))), (0, .inr (.inl (some 0)))] [] (n, sl, T, I, P, G) K := by
  have hn := h.1
  have hC := h.2.1
  have hT := h.2.2.1
  have t1 : T 1 = (1, 11, [1]) := hC 1 (by decide) (by decide)
  refine z_aload_n (pc2 := 686) rfl rfl rfl ?_
  refine z_aload_n (pc2 := 687) rfl rfl rfl ?_
  refine z_iload_n (pc2 := 688) rfl rfl rfl ?_
  refine z_iconst (pc2 := 689) rfl rfl ?_
  refine z_iadd (pc2 := 690) rfl rfl ?_
  refine z_sald (pc2 := 691) rfl rfl (by omega) (by omega) (by omega) (fun v1 v1e v1r => ?_)
  refine z_aload_n (pc2 := 692) rfl rfl rfl ?_
  refine z_iload_n (pc2 := 693) rfl rfl rfl ?_
  refine z_iconst (pc2 := 694) rfl rfl ?_
  refine z_iadd (pc2 := 695) rfl rfl ?_
  refine z_sald (pc2 := 696) rfl rfl (by omega) (by omega) (by omega) (fun v2 v2e v2r => ?_)
  refine z_callV (y2 := 117) (as := [_, _]) (rest := []) (pc2 := 699) rfl rfl rfl rfl t1 rfl ?_
  refine c_TypeRoom_note hn hC v1r v2r h.2.2.2.2.1 (fun e I2 c1 c2 c3 => ?_)
  have t56 : T 56 = (1, 12, [1]) := hT 56 (by decide) (by decide)
  show zB _ _ _ _ _ _ [_] _ _
  refine z_aload_n (pc2 := 700) rfl rfl rfl ?_
  refine z_aload_n (pc2 := 701) rfl rfl rfl ?_
  refine z_iload_n (pc2 := 702) rfl rfl rfl ?_
  refine z_iconst (pc2 := 703) rfl rfl ?_
  refine z_iadd (pc2 := 704) rfl rfl ?_
  refine z_sald (pc2 := 705) rfl rfl (by omega) (by omega) (by omega) (fun w3 w3e w3r => ?_)
  obtain rfl : v1 = w3 := v1e.trans w3e.symm
  clear w3e w3r
  refine z_aload_n (pc2 := 706) rfl rfl rfl ?_
  refine z_iload_n (pc2 := 707) rfl rfl rfl ?_
  refine z_iconst (pc2 := 708) rfl rfl ?_
  refine z_iadd (pc2 := 709) rfl rfl ?_
  refine z_sald (pc2 := 710) rfl rfl (by omega) (by omega) (by omega) (fun w4 w4e w4r => ?_)
  obtain rfl : v2 = w4 := v2e.trans w4e.symm
  clear w4e w4r
  refine z_callV (y2 := 210) (as := [_, _]) (rest := [_]) (pc2 := 713) rfl rfl rfl rfl t56 rfl ?_
  refine m_note hT v1r v2r (fun e2 I3 G3 d1 d2 d3 => ?_)
  have q := zLw_note h c1 c2 c3 d1 d2 d3
  show zB _ _ _ _ _ _ [_, _] _ _
  obtain ⟨q1, q2⟩ := q; subst q1
  refine z_icmp_same (t := 1420) (pc2 := 716) rfl rfl rfl ?_
  refine z_lv (lv2 := [(3, _), (2, _), (1, _), (0, _)]) ⟨rfl, rfl, rfl, rfl, trivial⟩ ?_
  exact hB _ _ _ _ _ _ q2
set_option maxHeartbeats 8000000 in
theorem lw_12 {L : Nat} {xs : Nat → Int32} {n sl : Nat} {T : Nat → zT} {I : Nat → Nat → Int} {P : Nat → Nat → Option Nat} {G : Nat → Nat → Int} {K : List zV → zH → Prop} {i : Int} (hL : L ≤ 3072) (h0 : 0 ≤ i) (h1 : i + 6 ≤ L) (h : zLw i n sl T I P) (hB : ∀ (n2 sl2 : Nat) (T2 : Nat → zT) (I2 : Nat → Nat → Int) (P2 : Nat → Nat → Option Nat) (G2 : Nat → Nat → Int), zLw (i + 6) n2 sl2 T2 I2 P2 → zB zMd L xs 271 1420 [(3, .inl i), (2, .inr (.inl (some 56))), (1, .inr (.inl (some 1))), (0, .inr (.inl (some 0)))] [] (n2, sl2, T2, I2, P2, G2) K) : zB zMd L xs 271 718 [(3, .inl i), (2, .inr (.inl (some 56))), (1, .inr (.inl (some 1))), (0, .inr (.inl (some 0)))] [] (n, sl, T, I, P, G) K := by
  have hn := h.1
  have hC := h.2.1
  have hT := h.2.2.1
  have t1 : T 1 = (1, 11, [1]) := hC 1 (by decide) (by decide)
  refine z_aload_n (pc2 := 719) rfl rfl rfl ?_
  refine z_aload_n (pc2 := 720) rfl rfl rfl ?_
  refine z_iload_n (pc2 := 721) rfl rfl rfl ?_
  refine z_iconst (pc2 := 722) rfl rfl ?_
  refine z_iadd (pc2 := 723) rfl rfl ?_
  refine z_sald (pc2 := 724) rfl rfl (by omega) (by omega) (by omega) (fun v1 v1e v1r => ?_)
  refine z_aload_n (pc2 := 725) rfl rfl rfl ?_
  refine z_iload_n (pc2 := 726) rfl rfl rfl ?_
  refine z_iconst (pc2 := 727) rfl rfl ?_
  refine z_iadd (pc2 := 728) rfl rfl ?_
  refine z_sald (pc2 := 729) rfl rfl (by omega) (by omega) (by omega) (fun v2 v2e v2r => ?_)
  refine z_aload_n (pc2 := 730) rfl rfl rfl ?_
  refine z_iload_n (pc2 := 731) rfl rfl rfl ?_
  refine z_iconst (pc2 := 732) rfl rfl ?_
  refine z_iadd (pc2 := 733) rfl rfl ?_
  refine z_sald (pc2 := 734) rfl rfl (by omega) (by omega) (by omega) (fun v3 v3e v3r => ?_)
  refine z_aload_n (pc2 := 735) rfl rfl rfl ?_
  refine z_iload_n (pc2 := 736) rfl rfl rfl ?_
  refine z_iconst (pc2 := 737) rfl rfl ?_
  refine z_iadd (pc2 := 738) rfl rfl ?_
  refine z_sald (pc2 := 739) rfl rfl (by omega) (by omega) (by omega) (fun v4 v4e v4r => ?_)
  refine z_callV (y2 := 118) (as := [_, _, _, _]) (rest := []) (pc2 := 742) rfl rfl rfl rfl t1 rfl ?_
  refine c_TypeRoom_take hn hC v1r v2r v3r v4r h.2.2.2.2.1 (fun e n2 sl2 T2 I2 P2 G2 f b => ?_)
  have t56 : T2 56 = (1, 12, [1]) := zLw_T h f.1 56 (by decide) (by decide)
  show zB _ _ _ _ _ _ [_] _ _
  refine z_pop (pc2 := 743) rfl rfl rfl ?_
  refine z_aload_n (pc2 := 744) rfl rfl rfl ?_
  refine z_aload_n (pc2 := 745) rfl rfl rfl ?_
  refine z_iload_n (pc2 := 746) rfl rfl rfl ?_
  refine z_iconst (pc2 := 747) rfl rfl ?_
  refine z_iadd (pc2 := 748) rfl rfl ?_
  refine z_sald (pc2 := 749) rfl rfl (by omega) (by omega) (by omega) (fun w5 w5e w5r => ?_)
  obtain rfl : v1 = w5 := v1e.trans w5e.symm
  clear w5e w5r
  refine z_aload_n (pc2 := 750) rfl rfl rfl ?_
  refine z_iload_n (pc2 := 751) rfl rfl rfl ?_
  refine z_iconst (pc2 := 752) rfl rfl ?_
  refine z_iadd (pc2 := 753) rfl rfl ?_
  refine z_sald (pc2 := 754) rfl rfl (by omega) (by omega) (by omega) (fun w6 w6e w6r => ?_)
  obtain rfl : v2 = w6 := v2e.trans w6e.symm
  clear w6e w6r
  refine z_aload_n (pc2 := 755) rfl rfl rfl ?_
  refine z_iload_n (pc2 := 756) rfl rfl rfl ?_
  refine z_iconst (pc2 := 757) rfl rfl ?_
  refine z_iadd (pc2 := 758) rfl rfl ?_
  refine z_sald (pc2 := 759) rfl rfl (by omega) (by omega) (by omega) (fun w7 w7e w7r => ?_)
  obtain rfl : v3 = w7 := v3e.trans w7e.symm
  clear w7e w7r
  refine z_aload_n (pc2 := 760) rfl rfl rfl ?_
  refine z_iload_n (pc2 := 761) rfl rfl rfl ?_
  refine z_iconst (pc2 := 762) rfl rfl ?_
  refine z_iadd (pc2 := 763) rfl rfl ?_
  refine z_sald (pc2 := 764) rfl rfl (by omega) (by omega) (by omega) (fun w8 w8e w8r => ?_)
  obtain rfl : v4 = w8 := v4e.trans w8e.symm
  clear w8e w8r
  refine z_callV (y2 := 212) (as := [_, _, _, _]) (rest := []) (pc2 := 767) rfl rfl rfl rfl t56 rfl ?_
  refine m_take (zLw_T h f.1) v1r v2r v3r v4r  (fun e2 I3 G3 r => ?_)
  show zB _ _ _ _ _ _ [_] _ _
  refine z_pop (pc2 := 768) rfl rfl rfl ?_
  refine z_goto (pc2 := 1420) rfl rfl ?_
  refine z_lv (lv2 := [(3, _), (2, _), (1, _), (0, _)]) ⟨rfl, rfl, rfl, rfl, trivial⟩ ?_
  exact hB _ _ _ _ _ _ (zLw_s h f (by omega) r)
set_option maxHeartbeats 8000000 in
theorem lw_13 {L : Nat} {xs : Nat → Int32} {n sl : Nat} {T : Nat → zT} {I : Nat → Nat → Int} {P : Nat → Nat → Option Nat} {G : Nat → Nat → Int} {K : List zV → zH → Prop} {i : Int} (hL : L ≤ 3072) (h0 : 0 ≤ i) (h1 : i + 6 ≤ L) (h : zLw i n sl T I P) (hB : ∀ (n2 sl2 : Nat) (T2 : Nat → zT) (I2 : Nat → Nat → Int) (P2 : Nat → Nat → Option Nat) (G2 : Nat → Nat → Int), zLw (i + 6) n2 sl2 T2 I2 P2 → zB zMd L xs 271 1420 [(3, .inl i), (2, .inr (.inl (some 56))), (1, .inr (.inl (some 1))), (0, .inr (.inl (some 0)))] [] (n2, sl2, T2, I2, P2, G2) K) : zB zMd L xs 271 771 [(3, .inl i), (2, .inr (.inl (some 56))), (1, .inr (.inl (some 1))), (0, .inr (.inl (some 0)))] [] (n, sl, T, I, P, G) K := by
  have hn := h.1
  have hC := h.2.1
  have hT := h.2.2.1
  have t1 : T 1 = (1, 11, [1]) := hC 1 (by decide) (by decide)
  refine z_aload_n (pc2 := 772) rfl rfl rfl ?_
  refine z_aload_n (pc2 := 773) rfl rfl rfl ?_
  refine z_iload_n (pc2 := 774) rfl rfl rfl ?_
  refine z_iconst (pc2 := 775) rfl rfl ?_
  refine z_iadd (pc2 := 776) rfl rfl ?_
  refine z_sald (pc2 := 777) rfl rfl (by omega) (by omega) (by omega) (fun v1 v1e v1r => ?_)
  refine z_callV (y2 := 119) (as := [_]) (rest := []) (pc2 := 780) rfl rfl rfl rfl t1 rfl ?_
  refine c_TypeRoom_putBack hn hC v1r h.2.2.2.2.1 (fun e n2 sl2 T2 I2 P2 G2 f b => ?_)
  have t56 : T2 56 = (1, 12, [1]) := zLw_T h f.1 56 (by decide) (by decide)
  show zB _ _ _ _ _ _ [_] _ _
  refine z_pop (pc2 := 781) rfl rfl rfl ?_
  refine z_aload_n (pc2 := 782) rfl rfl rfl ?_
  refine z_aload_n (pc2 := 783) rfl rfl rfl ?_
  refine z_iload_n (pc2 := 784) rfl rfl rfl ?_
  refine z_iconst (pc2 := 785) rfl rfl ?_
  refine z_iadd (pc2 := 786) rfl rfl ?_
  refine z_sald (pc2 := 787) rfl rfl (by omega) (by omega) (by omega) (fun w2 w2e w2r => ?_)
  obtain rfl : v1 = w2 := v1e.trans w2e.symm
  clear w2e w2r
  refine z_callV (y2 := 213) (as := [_]) (rest := []) (pc2 := 790) rfl rfl rfl rfl t56 rfl ?_
  refine m_putBack (zLw_T h f.1) v1r  (fun e2 I3 G3 r => ?_)
  show zB _ _ _ _ _ _ [_] _ _
  refine z_pop (pc2 := 791) rfl rfl rfl ?_
  refine z_goto (pc2 := 1420) rfl rfl ?_
  refine z_lv (lv2 := [(3, _), (2, _), (1, _), (0, _)]) ⟨rfl, rfl, rfl, rfl, trivial⟩ ?_
  exact hB _ _ _ _ _ _ (zLw_s h f (by omega) r)
set_option maxHeartbeats 8000000 in
theorem lw_14 {L : Nat} {xs : Nat → Int32} {n sl : Nat} {T : Nat → zT} {I : Nat → Nat → Int} {P : Nat → Nat → Option Nat} {G : Nat → Nat → Int} {K : List zV → zH → Prop} {i : Int} (hL : L ≤ 3072) (h0 : 0 ≤ i) (h1 : i + 6 ≤ L) (h : zLw i n sl T I P) (hB : ∀ (n2 sl2 : Nat) (T2 : Nat → zT) (I2 : Nat → Nat → Int) (P2 : Nat → Nat → Option Nat) (G2 : Nat → Nat → Int), zLw (i + 6) n2 sl2 T2 I2 P2 → zB zMd L xs 271 1420 [(3, .inl i), (2, .inr (.inl (some 56))), (1, .inr (.inl (some 1))), (0, .inr (.inl (some 0)))] [] (n2, sl2, T2, I2, P2, G2) K) : zB zMd L xs 271 794 [(3, .inl i), (2, .inr (.inl (some 56))), (1, .inr (.inl (some 1))), (0, .inr (.inl (some 0)))] [] (n, sl, T, I, P, G) K := by
  have hn := h.1
  have hC := h.2.1
  have hT := h.2.2.1
  have t1 : T 1 = (1, 11, [1]) := hC 1 (by decide) (by decide)
  refine z_aload_n (pc2 := 795) rfl rfl rfl ?_
  refine z_aload_n (pc2 := 796) rfl rfl rfl ?_
  refine z_iload_n (pc2 := 797) rfl rfl rfl ?_
  refine z_iconst (pc2 := 798) rfl rfl ?_
  refine z_iadd (pc2 := 799) rfl rfl ?_
  refine z_sald (pc2 := 800) rfl rfl (by omega) (by omega) (by omega) (fun v1 v1e v1r => ?_)
  refine z_aload_n (pc2 := 801) rfl rfl rfl ?_
  refine z_iload_n (pc2 := 802) rfl rfl rfl ?_
  refine z_iconst (pc2 := 803) rfl rfl ?_
  refine z_iadd (pc2 := 804) rfl rfl ?_
  refine z_sald (pc2 := 805) rfl rfl (by omega) (by omega) (by omega) (fun v2 v2e v2r => ?_)
  refine z_callV (y2 := 120) (as := [_, _]) (rest := []) (pc2 := 808) rfl rfl rfl rfl t1 rfl ?_
  refine c_TypeRoom_stack hn hC v1r v2r h.2.2.2.2.1 (fun e n2 sl2 T2 I2 P2 G2 f b => ?_)
  have t56 : T2 56 = (1, 12, [1]) := zLw_T h f.1 56 (by decide) (by decide)
  show zB _ _ _ _ _ _ [_] _ _
  refine z_pop (pc2 := 809) rfl rfl rfl ?_
  refine z_aload_n (pc2 := 810) rfl rfl rfl ?_
  refine z_aload_n (pc2 := 811) rfl rfl rfl ?_
  refine z_iload_n (pc2 := 812) rfl rfl rfl ?_
  refine z_iconst (pc2 := 813) rfl rfl ?_
  refine z_iadd (pc2 := 814) rfl rfl ?_
  refine z_sald (pc2 := 815) rfl rfl (by omega) (by omega) (by omega) (fun w3 w3e w3r => ?_)
  obtain rfl : v1 = w3 := v1e.trans w3e.symm
  clear w3e w3r
  refine z_aload_n (pc2 := 816) rfl rfl rfl ?_
  refine z_iload_n (pc2 := 817) rfl rfl rfl ?_
  refine z_iconst (pc2 := 818) rfl rfl ?_
  refine z_iadd (pc2 := 819) rfl rfl ?_
  refine z_sald (pc2 := 820) rfl rfl (by omega) (by omega) (by omega) (fun w4 w4e w4r => ?_)
  obtain rfl : v2 = w4 := v2e.trans w4e.symm
  clear w4e w4r
  refine z_callV (y2 := 214) (as := [_, _]) (rest := []) (pc2 := 823) rfl rfl rfl rfl t56 rfl ?_
  refine m_stack (zLw_T h f.1) v1r v2r  (fun e2 I3 G3 r => ?_)
  show zB _ _ _ _ _ _ [_] _ _
  refine z_pop (pc2 := 824) rfl rfl rfl ?_
  refine z_goto (pc2 := 1420) rfl rfl ?_
  refine z_lv (lv2 := [(3, _), (2, _), (1, _), (0, _)]) ⟨rfl, rfl, rfl, rfl, trivial⟩ ?_
  exact hB _ _ _ _ _ _ (zLw_s h f (by omega) r)
set_option maxHeartbeats 8000000 in
theorem lw_15 {L : Nat} {xs : Nat → Int32} {n sl : Nat} {T : Nat → zT} {I : Nat → Nat → Int} {P : Nat → Nat → Option Nat} {G : Nat → Nat → Int} {K : List zV → zH → Prop} {i : Int} (hL : L ≤ 3072) (h0 : 0 ≤ i) (h1 : i + 6 ≤ L) (h : zLw i n sl T I P) (hB : ∀ (n2 sl2 : Nat) (T2 : Nat → zT) (I2 : Nat → Nat → Int) (P2 : Nat → Nat → Option Nat) (G2 : Nat → Nat → Int), zLw (i + 6) n2 sl2 T2 I2 P2 → zB zMd L xs 271 1420 [(3, .inl i), (2, .inr (.inl (some 56))), (1, .inr (.inl (some 1))), (0, .inr (.inl (some 0)))] [] (n2, sl2, T2, I2, P2, G2) K) : zB zMd L xs 271 827 [(3, .inl i), (2, .inr (.inl (some 56))), (1, .inr (.inl (some 1))), (0, .inr (.inl (some 0)))] [] (n, sl, T, I, P, G) K := by
  have hn := h.1
  have hC := h.2.1
  have hT := h.2.2.1
  have t1 : T 1 = (1, 11, [1]) := hC 1 (by decide) (by decide)
  refine z_aload_n (pc2 := 828) rfl rfl rfl ?_
  refine z_aload_n (pc2 := 829) rfl rfl rfl ?_
  refine z_iload_n (pc2 := 830) rfl rfl rfl ?_
  refine z_iconst (pc2 := 831) rfl rfl ?_
  refine z_iadd (pc2 := 832) rfl rfl ?_
  refine z_sald (pc2 := 833) rfl rfl (by omega) (by omega) (by omega) (fun v1 v1e v1r => ?_)
  refine z_aload_n (pc2 := 834) rfl rfl rfl ?_
  refine z_iload_n (pc2 := 835) rfl rfl rfl ?_
  refine z_iconst (pc2 := 836) rfl rfl ?_
  refine z_iadd (pc2 := 837) rfl rfl ?_
  refine z_sald (pc2 := 838) rfl rfl (by omega) (by omega) (by omega) (fun v2 v2e v2r => ?_)
  refine z_callV (y2 := 121) (as := [_, _]) (rest := []) (pc2 := 841) rfl rfl rfl rfl t1 rfl ?_
  refine c_TypeRoom_ask hn hC v1r v2r h.2.2.2.2.1 (fun e n2 sl2 T2 I2 P2 G2 f b => ?_)
  have t56 : T2 56 = (1, 12, [1]) := zLw_T h f.1 56 (by decide) (by decide)
  show zB _ _ _ _ _ _ [_] _ _
  refine z_pop (pc2 := 842) rfl rfl rfl ?_
  refine z_aload_n (pc2 := 843) rfl rfl rfl ?_
  refine z_aload_n (pc2 := 844) rfl rfl rfl ?_
  refine z_iload_n (pc2 := 845) rfl rfl rfl ?_
  refine z_iconst (pc2 := 846) rfl rfl ?_
  refine z_iadd (pc2 := 847) rfl rfl ?_
  refine z_sald (pc2 := 848) rfl rfl (by omega) (by omega) (by omega) (fun w3 w3e w3r => ?_)
  obtain rfl : v1 = w3 := v1e.trans w3e.symm
  clear w3e w3r
  refine z_aload_n (pc2 := 849) rfl rfl rfl ?_
  refine z_iload_n (pc2 := 850) rfl rfl rfl ?_
  refine z_iconst (pc2 := 851) rfl rfl ?_
  refine z_iadd (pc2 := 852) rfl rfl ?_
  refine z_sald (pc2 := 853) rfl rfl (by omega) (by omega) (by omega) (fun w4 w4e w4r => ?_)
  obtain rfl : v2 = w4 := v2e.trans w4e.symm
  clear w4e w4r
  refine z_callV (y2 := 215) (as := [_, _]) (rest := []) (pc2 := 856) rfl rfl rfl rfl t56 rfl ?_
  refine m_ask (zLw_T h f.1) v1r v2r  (fun e2 I3 G3 r => ?_)
  show zB _ _ _ _ _ _ [_] _ _
  refine z_pop (pc2 := 857) rfl rfl rfl ?_
  refine z_goto (pc2 := 1420) rfl rfl ?_
  refine z_lv (lv2 := [(3, _), (2, _), (1, _), (0, _)]) ⟨rfl, rfl, rfl, rfl, trivial⟩ ?_
  exact hB _ _ _ _ _ _ (zLw_s h f (by omega) r)
set_option maxHeartbeats 8000000 in
theorem lw_16 {L : Nat} {xs : Nat → Int32} {n sl : Nat} {T : Nat → zT} {I : Nat → Nat → Int} {P : Nat → Nat → Option Nat} {G : Nat → Nat → Int} {K : List zV → zH → Prop} {i : Int} (hL : L ≤ 3072) (h0 : 0 ≤ i) (h1 : i + 6 ≤ L) (h : zLw i n sl T I P) (hB : ∀ (n2 sl2 : Nat) (T2 : Nat → zT) (I2 : Nat → Nat → Int) (P2 : Nat → Nat → Option Nat) (G2 : Nat → Nat → Int), zLw (i + 6) n2 sl2 T2 I2 P2 → zB zMd L xs 271 1420 [(3, .inl i), (2, .inr (.inl (some 56))), (1, .inr (.inl (some 1))), (0, .inr (.inl (some 0)))] [] (n2, sl2, T2, I2, P2, G2) K) : zB zMd L xs 271 860 [(3, .inl i), (2, .inr (.inl (some 56))), (1, .inr (.inl (some 1))), (0, .inr (.inl (some 0)))] [] (n, sl, T, I, P, G) K := by
  have hn := h.1
  have hC := h.2.1
  have hT := h.2.2.1
  have t1 : T 1 = (1, 11, [1]) := hC 1 (by decide) (by decide)
  refine z_aload_n (pc2 := 861) rfl rfl rfl ?_
  refine z_aload_n (pc2 := 862) rfl rfl rfl ?_
  refine z_iload_n (pc2 := 863) rfl rfl rfl ?_
  refine z_iconst (pc2 := 864) rfl rfl ?_
  refine z_iadd (pc2 := 865) rfl rfl ?_
  refine z_sald (pc2 := 866) rfl rfl (by omega) (by omega) (by omega) (fun v1 v1e v1r => ?_)
  refine z_aload_n (pc2 := 867) rfl rfl rfl ?_
  refine z_iload_n (pc2 := 868) rfl rfl rfl ?_
  refine z_iconst (pc2 := 869) rfl rfl ?_
  refine z_iadd (pc2 := 870) rfl rfl ?_
  refine z_sald (pc2 := 871) rfl rfl (by omega) (by omega) (by omega) (fun v2 v2e v2r => ?_)
  refine z_callV (y2 := 122) (as := [_, _]) (rest := []) (pc2 := 874) rfl rfl rfl rfl t1 rfl ?_
  refine c_TypeRoom_added hn hC v1r v2r h.2.2.2.2.1 (fun e n2 sl2 T2 I2 P2 G2 f b => ?_)
  have t56 : T2 56 = (1, 12, [1]) := zLw_T h f.1 56 (by decide) (by decide)
  show zB _ _ _ _ _ _ [_] _ _
  refine z_pop (pc2 := 875) rfl rfl rfl ?_
  refine z_aload_n (pc2 := 876) rfl rfl rfl ?_
  refine z_aload_n (pc2 := 877) rfl rfl rfl ?_
  refine z_iload_n (pc2 := 878) rfl rfl rfl ?_
  refine z_iconst (pc2 := 879) rfl rfl ?_
  refine z_iadd (pc2 := 880) rfl rfl ?_
  refine z_sald (pc2 := 881) rfl rfl (by omega) (by omega) (by omega) (fun w3 w3e w3r => ?_)
  obtain rfl : v1 = w3 := v1e.trans w3e.symm
  clear w3e w3r
  refine z_aload_n (pc2 := 882) rfl rfl rfl ?_
  refine z_iload_n (pc2 := 883) rfl rfl rfl ?_
  refine z_iconst (pc2 := 884) rfl rfl ?_
  refine z_iadd (pc2 := 885) rfl rfl ?_
  refine z_sald (pc2 := 886) rfl rfl (by omega) (by omega) (by omega) (fun w4 w4e w4r => ?_)
  obtain rfl : v2 = w4 := v2e.trans w4e.symm
  clear w4e w4r
  refine z_callV (y2 := 217) (as := [_, _]) (rest := []) (pc2 := 889) rfl rfl rfl rfl t56 rfl ?_
  refine m_added (zLw_T h f.1) v1r v2r  (fun e2 I3 G3 r => ?_)
  show zB _ _ _ _ _ _ [_] _ _
  refine z_pop (pc2 := 890) rfl rfl rfl ?_
  refine z_goto (pc2 := 1420) rfl rfl ?_
  refine z_lv (lv2 := [(3, _), (2, _), (1, _), (0, _)]) ⟨rfl, rfl, rfl, rfl, trivial⟩ ?_
  exact hB _ _ _ _ _ _ (zLw_s h f (by omega) r)
set_option maxHeartbeats 8000000 in
theorem lw_17 {L : Nat} {xs : Nat → Int32} {n sl : Nat} {T : Nat → zT} {I : Nat → Nat → Int} {P : Nat → Nat → Option Nat} {G : Nat → Nat → Int} {K : List zV → zH → Prop} {i : Int} (hL : L ≤ 3072) (h0 : 0 ≤ i) (h1 : i + 6 ≤ L) (h : zLw i n sl T I P) (hB : ∀ (n2 sl2 : Nat) (T2 : Nat → zT) (I2 : Nat → Nat → Int) (P2 : Nat → Nat → Option Nat) (G2 : Nat → Nat → Int), zLw (i + 6) n2 sl2 T2 I2 P2 → zB zMd L xs 271 1420 [(3, .inl i), (2, .inr (.inl (some 56))), (1, .inr (.inl (some 1))), (0, .inr (.inl (some 0)))] [] (n2, sl2, T2, I2, P2, G2) K) : zB zMd L xs 271 893 [(3, .inl i), (2, .inr (.inl (some 56))), (1, .inr (.inl (some 1))), (0, .inr (.inl (some 0)))] [] (n, sl, T, I, P, G) K := by
  have hn := h.1
  have hC := h.2.1
  have hT := h.2.2.1
  have t1 : T 1 = (1, 11, [1]) := hC 1 (by decide) (by decide)
  refine z_aload_n (pc2 := 894) rfl rfl rfl ?_
  refine z_aload_n (pc2 := 895) rfl rfl rfl ?_
  refine z_iload_n (pc2 := 896) rfl rfl rfl ?_
  refine z_iconst (pc2 := 897) rfl rfl ?_
  refine z_iadd (pc2 := 898) rfl rfl ?_
  refine z_sald (pc2 := 899) rfl rfl (by omega) (by omega) (by omega) (fun v1 v1e v1r => ?_)
  refine z_aload_n (pc2 := 900) rfl rfl rfl ?_
  refine z_iload_n (pc2 := 901) rfl rfl rfl ?_
  refine z_iconst (pc2 := 902) rfl rfl ?_
  refine z_iadd (pc2 := 903) rfl rfl ?_
  refine z_sald (pc2 := 904) rfl rfl (by omega) (by omega) (by omega) (fun v2 v2e v2r => ?_)
  refine z_callV (y2 := 123) (as := [_, _]) (rest := []) (pc2 := 907) rfl rfl rfl rfl t1 rfl ?_
  refine c_TypeRoom_tray hn hC v1r v2r h.2.2.2.2.1 (fun e n2 sl2 T2 I2 P2 G2 f b => ?_)
  have t56 : T2 56 = (1, 12, [1]) := zLw_T h f.1 56 (by decide) (by decide)
  show zB _ _ _ _ _ _ [_] _ _
  refine z_pop (pc2 := 908) rfl rfl rfl ?_
  refine z_aload_n (pc2 := 909) rfl rfl rfl ?_
  refine z_aload_n (pc2 := 910) rfl rfl rfl ?_
  refine z_iload_n (pc2 := 911) rfl rfl rfl ?_
  refine z_iconst (pc2 := 912) rfl rfl ?_
  refine z_iadd (pc2 := 913) rfl rfl ?_
  refine z_sald (pc2 := 914) rfl rfl (by omega) (by omega) (by omega) (fun w3 w3e w3r => ?_)
  obtain rfl : v1 = w3 := v1e.trans w3e.symm
  clear w3e w3r
  refine z_aload_n (pc2 := 915) rfl rfl rfl ?_
  refine z_iload_n (pc2 := 916) rfl rfl rfl ?_
  refine z_iconst (pc2 := 917) rfl rfl ?_
  refine z_iadd (pc2 := 918) rfl rfl ?_
  refine z_sald (pc2 := 919) rfl rfl (by omega) (by omega) (by omega) (fun w4 w4e w4r => ?_)
  obtain rfl : v2 = w4 := v2e.trans w4e.symm
  clear w4e w4r
  refine z_callV (y2 := 218) (as := [_, _]) (rest := []) (pc2 := 922) rfl rfl rfl rfl t56 rfl ?_
  refine m_tray (zLw_T h f.1) v1r v2r  (fun e2 I3 G3 r => ?_)
  show zB _ _ _ _ _ _ [_] _ _
  refine z_pop (pc2 := 923) rfl rfl rfl ?_
  refine z_goto (pc2 := 1420) rfl rfl ?_
  refine z_lv (lv2 := [(3, _), (2, _), (1, _), (0, _)]) ⟨rfl, rfl, rfl, rfl, trivial⟩ ?_
  exact hB _ _ _ _ _ _ (zLw_s h f (by omega) r)
