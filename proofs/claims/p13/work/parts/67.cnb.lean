set_option maxHeartbeats 80000000 in
set_option maxRecDepth 20000 in
theorem z_lawB {L : Nat} {xs : Nat → Int32} {T : Nat → zT} {I : Nat → Nat → Int} {P : Nat → Nat → Option Nat} {G : Nat → Nat → Int} {K : List zV → zH → Prop} (hC : ∀ a, 1 ≤ a → a ≤ 55 → T a = zFixC a) (g5 : P 1 5 = some 18) (g6 : I 1 6 = 0) (ga : P 18 4 = some 23) (gb : P 18 5 = some 30) (gc : P 37 4 = some 42) (gd : P 37 5 = some 49) (gf23 : I 23 6 = 0 ∧ I 23 8 = 0 ∧ I 23 10 = 0) (gf30 : I 30 6 = 0 ∧ I 30 8 = 0 ∧ I 30 10 = 0) (gf42 : I 42 6 = 0 ∧ I 42 8 = 0 ∧ I 42 10 = 0) (gf49 : I 49 6 = 0 ∧ I 49 8 = 0 ∧ I 49 10 = 0) (h22 : ∀ k, k < 12 → I 22 k = 2 ∧ I 41 k = 2) (hE : ∀ (T : Nat → zT) (I : Nat → Nat → Int) (P : Nat → Nat → Option Nat) (G : Nat → Nat → Int), (∀ a, 1 ≤ a → a ≤ 55 → T a = zFixC a) → (∀ a, 56 ≤ a → a ≤ 90 → T a = zFix a) → zRl I → zCR T I P → I 1 6 = 0 → I 56 3 = 0 → (∀ k, k < 12 → I 22 k = 2 ∧ I 41 k = 2) → (∀ k, k < 24 → I 79 k = 2) → zB zMd L xs 271 18 [(3, .inl 0), (2, .inr (.inl (some 56))), (1, .inr (.inl (some 1))), (0, .inr (.inl (some 0)))] [] (90, 233526, T, I, P, G) K) : zB zMd L xs 271 8 [(1, .inr (.inl (some 1))), (0, .inr (.inl (some 0)))] [] (55, 2116, T, I, P, G) K := by
  refine z_newE (a := 56) (s2 := 2165) (c := 12) (s := 49) (pc2 := 11) rfl rfl rfl rfl rfl rfl zokM_0 ?_
  refine z_dup (pc2 := 12) rfl rfl rfl ?_
  refine z_callP (y2 := 156) (as := []) (rest := [_]) (pc2 := 15) rfl rfl rfl rfl ?_
  refine z_inl ?_
  refine z_lv (lv2 := [(0, _)]) ⟨rfl, trivial⟩ ?_
  refine z_aload_n (pc2 := 1) rfl rfl rfl ?_
  refine z_obj (pc2 := 4) rfl rfl rfl rfl ?_
  refine z_aload_n (pc2 := 5) rfl rfl rfl ?_
  refine z_ldc (112200) (pc2 := 7) rfl rfl rfl ?_
  refine z_newIE (a := 57) (s2 := 114365) (gs := [1]) (pc2 := 9) rfl rfl rfl rfl (by omega) (by omega) zokN_0 ?_
  refine z_putP (pc2 := 12) rfl rfl rfl rfl (by first | exact z_fitO _ _ | exact z_fitA _ _) rfl (rfl : _ = ((1, 12, []) : zT)) True.intro ?_
  refine z_aload_n (pc2 := 13) rfl rfl rfl ?_
  refine z_ldc (112200) (pc2 := 15) rfl rfl rfl ?_
  refine z_newIE (a := 58) (s2 := 226565) (gs := [1]) (pc2 := 17) rfl rfl rfl rfl (by omega) (by omega) zokN_0 ?_
  refine z_putP (pc2 := 20) rfl rfl rfl rfl (by first | exact z_fitO _ _ | exact z_fitA _ _) rfl (rfl : _ = ((1, 12, []) : zT)) True.intro ?_
  refine z_aload_n (pc2 := 21) rfl rfl rfl ?_
  refine z_iconst (pc2 := 22) rfl rfl ?_
  refine z_newTE (a := 59) (s2 := 226567) (t := 2) (gs := [0]) (pc2 := 24) rfl rfl rfl rfl rfl (by omega) (by omega) (by omega) ?_
  refine z_putP (pc2 := 27) rfl rfl rfl rfl (by first | exact z_fitO _ _ | exact z_fitA _ _) rfl (rfl : _ = ((1, 12, []) : zT)) True.intro ?_
  refine z_aload_n (pc2 := 28) rfl rfl rfl ?_
  refine z_bipush (pc2 := 30) rfl rfl (by decide) ?_
  refine z_newIE (a := 60) (s2 := 226627) (gs := [0]) (pc2 := 32) rfl rfl rfl rfl (by omega) (by omega) (fun _ => True.intro) ?_
  refine z_putP (pc2 := 35) rfl rfl rfl rfl (by first | exact z_fitO _ _ | exact z_fitA _ _) rfl (rfl : _ = ((1, 12, []) : zT)) True.intro ?_
  refine z_aload_n (pc2 := 36) rfl rfl rfl ?_
  refine z_bipush (pc2 := 38) rfl rfl (by decide) ?_
  refine z_newIE (a := 61) (s2 := 226635) (gs := [2]) (pc2 := 40) rfl rfl rfl rfl (by omega) (by omega) (fun k => by show (-1 : Int) ≤ 0 ∧ (0 : Int) ≤ 24; omega) ?_
  refine z_dup (pc2 := 41) rfl rfl rfl ?_
  refine z_iconst (pc2 := 42) rfl rfl ?_
  refine z_iconst (pc2 := 43) rfl rfl ?_
  refine z_iast (pc2 := 44) rfl rfl (rfl : _ = ((2, 0, [8, 2]) : zT)) (by omega) (by omega) (by omega) (by omega) (by show (-1 : Int) ≤ _ ∧ _ ≤ 24; omega) ?_
  refine z_dup (pc2 := 45) rfl rfl rfl ?_
  refine z_iconst (pc2 := 46) rfl rfl ?_
  refine z_iconst (pc2 := 47) rfl rfl ?_
  refine z_iast (pc2 := 48) rfl rfl (rfl : _ = ((2, 0, [8, 2]) : zT)) (by omega) (by omega) (by omega) (by omega) (by show (-1 : Int) ≤ _ ∧ _ ≤ 24; omega) ?_
  refine z_dup (pc2 := 49) rfl rfl rfl ?_
  refine z_iconst (pc2 := 50) rfl rfl ?_
  refine z_iconst (pc2 := 51) rfl rfl ?_
  refine z_iast (pc2 := 52) rfl rfl (rfl : _ = ((2, 0, [8, 2]) : zT)) (by omega) (by omega) (by omega) (by omega) (by show (-1 : Int) ≤ _ ∧ _ ≤ 24; omega) ?_
  refine z_dup (pc2 := 53) rfl rfl rfl ?_
  refine z_iconst (pc2 := 54) rfl rfl ?_
  refine z_iconst (pc2 := 55) rfl rfl ?_
  refine z_iast (pc2 := 56) rfl rfl (rfl : _ = ((2, 0, [8, 2]) : zT)) (by omega) (by omega) (by omega) (by omega) (by show (-1 : Int) ≤ _ ∧ _ ≤ 24; omega) ?_
  refine z_dup (pc2 := 57) rfl rfl rfl ?_
  refine z_iconst (pc2 := 58) rfl rfl ?_
  refine z_iconst (pc2 := 59) rfl rfl ?_
  refine z_iast (pc2 := 60) rfl rfl (rfl : _ = ((2, 0, [8, 2]) : zT)) (by omega) (by omega) (by omega) (by omega) (by show (-1 : Int) ≤ _ ∧ _ ≤ 24; omega) ?_
  refine z_dup (pc2 := 61) rfl rfl rfl ?_
  refine z_iconst (pc2 := 62) rfl rfl ?_
  refine z_iconst (pc2 := 63) rfl rfl ?_
  refine z_iast (pc2 := 64) rfl rfl (rfl : _ = ((2, 0, [8, 2]) : zT)) (by omega) (by omega) (by omega) (by omega) (by show (-1 : Int) ≤ _ ∧ _ ≤ 24; omega) ?_
  refine z_dup (pc2 := 65) rfl rfl rfl ?_
  refine z_bipush (pc2 := 67) rfl rfl (by decide) ?_
  refine z_iconst (pc2 := 68) rfl rfl ?_
  refine z_iast (pc2 := 69) rfl rfl (rfl : _ = ((2, 0, [8, 2]) : zT)) (by omega) (by omega) (by omega) (by omega) (by show (-1 : Int) ≤ _ ∧ _ ≤ 24; omega) ?_
  refine z_dup (pc2 := 70) rfl rfl rfl ?_
  refine z_bipush (pc2 := 72) rfl rfl (by decide) ?_
  refine z_iconst (pc2 := 73) rfl rfl ?_
  refine z_iast (pc2 := 74) rfl rfl (rfl : _ = ((2, 0, [8, 2]) : zT)) (by omega) (by omega) (by omega) (by omega) (by show (-1 : Int) ≤ _ ∧ _ ≤ 24; omega) ?_
  refine z_putP (pc2 := 77) rfl rfl rfl rfl (by first | exact z_fitO _ _ | exact z_fitA _ _) rfl (rfl : _ = ((1, 12, []) : zT)) True.intro ?_
  refine z_aload_n (pc2 := 78) rfl rfl rfl ?_
  refine z_sipush (pc2 := 81) rfl rfl (by decide) ?_
  refine z_newIE (a := 62) (s2 := 226827) (gs := [0]) (pc2 := 83) rfl rfl rfl rfl (by omega) (by omega) (fun _ => True.intro) ?_
  refine z_putP (pc2 := 86) rfl rfl rfl rfl (by first | exact z_fitO _ _ | exact z_fitA _ _) rfl (rfl : _ = ((1, 12, []) : zT)) True.intro ?_
  refine z_aload_n (pc2 := 87) rfl rfl rfl ?_
  refine z_sipush (pc2 := 90) rfl rfl (by decide) ?_
  refine z_newIE (a := 63) (s2 := 227019) (gs := [2]) (pc2 := 92) rfl rfl rfl rfl (by omega) (by omega) (fun k => by show (-1 : Int) ≤ 0 ∧ (0 : Int) ≤ 24; omega) ?_
  refine z_putP (pc2 := 95) rfl rfl rfl rfl (by first | exact z_fitO _ _ | exact z_fitA _ _) rfl (rfl : _ = ((1, 12, []) : zT)) True.intro ?_
  refine z_aload_n (pc2 := 96) rfl rfl rfl ?_
  refine z_sipush (pc2 := 99) rfl rfl (by decide) ?_
  refine z_newIE (a := 64) (s2 := 231627) (gs := [0]) (pc2 := 101) rfl rfl rfl rfl (by omega) (by omega) (fun _ => True.intro) ?_
  refine z_putP (pc2 := 104) rfl rfl rfl rfl (by first | exact z_fitO _ _ | exact z_fitA _ _) rfl (rfl : _ = ((1, 12, []) : zT)) True.intro ?_
  refine z_aload_n (pc2 := 105) rfl rfl rfl ?_
  refine z_bipush (pc2 := 107) rfl rfl (by decide) ?_
  refine z_newIE (a := 65) (s2 := 231635) (gs := [3]) (pc2 := 109) rfl rfl rfl rfl (by omega) (by omega) (fun k => by show (0 : Int) ≤ 0 ∧ (0 : Int) ≤ 6; omega) ?_
  refine z_putP (pc2 := 112) rfl rfl rfl rfl (by first | exact z_fitO _ _ | exact z_fitA _ _) rfl (rfl : _ = ((1, 12, []) : zT)) True.intro ?_
  refine z_aload_n (pc2 := 113) rfl rfl rfl ?_
  refine z_bipush (pc2 := 115) rfl rfl (by decide) ?_
  refine z_newIE (a := 66) (s2 := 231683) (gs := [4]) (pc2 := 117) rfl rfl rfl rfl (by omega) (by omega) (fun k => by show (0 : Int) ≤ 0 ∧ (0 : Int) ≤ 23; omega) ?_
  refine z_putP (pc2 := 120) rfl rfl rfl rfl (by first | exact z_fitO _ _ | exact z_fitA _ _) rfl (rfl : _ = ((1, 12, []) : zT)) True.intro ?_
  refine z_aload_n (pc2 := 121) rfl rfl rfl ?_
  refine z_bipush (pc2 := 123) rfl rfl (by decide) ?_
  refine z_newIE (a := 67) (s2 := 231731) (gs := [4]) (pc2 := 125) rfl rfl rfl rfl (by omega) (by omega) (fun k => by show (0 : Int) ≤ 0 ∧ (0 : Int) ≤ 23; omega) ?_
  refine z_putP (pc2 := 128) rfl rfl rfl rfl (by first | exact z_fitO _ _ | exact z_fitA _ _) rfl (rfl : _ = ((1, 12, []) : zT)) True.intro ?_
  refine z_aload_n (pc2 := 129) rfl rfl rfl ?_
  refine z_bipush (pc2 := 131) rfl rfl (by decide) ?_
  refine z_newIE (a := 68) (s2 := 231779) (gs := [5]) (pc2 := 133) rfl rfl rfl rfl (by omega) (by omega) (fun k => by show (-1 : Int) ≤ 0 ∧ (0 : Int) ≤ 23; omega) ?_
  refine z_putP (pc2 := 136) rfl rfl rfl rfl (by first | exact z_fitO _ _ | exact z_fitA _ _) rfl (rfl : _ = ((1, 12, []) : zT)) True.intro ?_
  refine z_aload_n (pc2 := 137) rfl rfl rfl ?_
  refine z_bipush (pc2 := 139) rfl rfl (by decide) ?_
  refine z_newIE (a := 69) (s2 := 231827) (gs := [0]) (pc2 := 141) rfl rfl rfl rfl (by omega) (by omega) (fun _ => True.intro) ?_
  refine z_putP (pc2 := 144) rfl rfl rfl rfl (by first | exact z_fitO _ _ | exact z_fitA _ _) rfl (rfl : _ = ((1, 12, []) : zT)) True.intro ?_
  refine z_aload_n (pc2 := 145) rfl rfl rfl ?_
  refine z_bipush (pc2 := 147) rfl rfl (by decide) ?_
  refine z_newIE (a := 70) (s2 := 231859) (gs := [0]) (pc2 := 149) rfl rfl rfl rfl (by omega) (by omega) (fun _ => True.intro) ?_
  refine z_putP (pc2 := 152) rfl rfl rfl rfl (by first | exact z_fitO _ _ | exact z_fitA _ _) rfl (rfl : _ = ((1, 12, []) : zT)) True.intro ?_
  refine z_aload_n (pc2 := 153) rfl rfl rfl ?_
  refine z_bipush (pc2 := 155) rfl rfl (by decide) ?_
  refine z_newIE (a := 71) (s2 := 231867) (gs := [0]) (pc2 := 157) rfl rfl rfl rfl (by omega) (by omega) (fun _ => True.intro) ?_
  refine z_putP (pc2 := 160) rfl rfl rfl rfl (by first | exact z_fitO _ _ | exact z_fitA _ _) rfl (rfl : _ = ((1, 12, []) : zT)) True.intro ?_
  refine z_aload_n (pc2 := 161) rfl rfl rfl ?_
  refine z_bipush (pc2 := 163) rfl rfl (by decide) ?_
  refine z_newIE (a := 72) (s2 := 231875) (gs := [0]) (pc2 := 165) rfl rfl rfl rfl (by omega) (by omega) (fun _ => True.intro) ?_
  refine z_putP (pc2 := 168) rfl rfl rfl rfl (by first | exact z_fitO _ _ | exact z_fitA _ _) rfl (rfl : _ = ((1, 12, []) : zT)) True.intro ?_
  refine z_aload_n (pc2 := 169) rfl rfl rfl ?_
  refine z_bipush (pc2 := 171) rfl rfl (by decide) ?_
  refine z_newIE (a := 73) (s2 := 231883) (gs := [0]) (pc2 := 173) rfl rfl rfl rfl (by omega) (by omega) (fun _ => True.intro) ?_
  refine z_putP (pc2 := 176) rfl rfl rfl rfl (by first | exact z_fitO _ _ | exact z_fitA _ _) rfl (rfl : _ = ((1, 12, []) : zT)) True.intro ?_
  refine z_aload_n (pc2 := 177) rfl rfl rfl ?_
  refine z_bipush (pc2 := 179) rfl rfl (by decide) ?_
  refine z_newIE (a := 74) (s2 := 231891) (gs := [13]) (pc2 := 181) rfl rfl rfl rfl (by omega) (by omega) (fun k => by show (0 : Int) ≤ 0 ∧ (0 : Int) ≤ 3; omega) ?_
  refine z_putP (pc2 := 184) rfl rfl rfl rfl (by first | exact z_fitO _ _ | exact z_fitA _ _) rfl (rfl : _ = ((1, 12, []) : zT)) True.intro ?_
  refine z_aload_n (pc2 := 185) rfl rfl rfl ?_
  refine z_bipush (pc2 := 187) rfl rfl (by decide) ?_
  refine z_newIE (a := 75) (s2 := 231899) (gs := [0]) (pc2 := 189) rfl rfl rfl rfl (by omega) (by omega) (fun _ => True.intro) ?_
  refine z_putP (pc2 := 192) rfl rfl rfl rfl (by first | exact z_fitO _ _ | exact z_fitA _ _) rfl (rfl : _ = ((1, 12, []) : zT)) True.intro ?_
  refine z_aload_n (pc2 := 193) rfl rfl rfl ?_
  refine z_iconst (pc2 := 194) rfl rfl ?_
  refine z_newIE (a := 76) (s2 := 231901) (gs := [0]) (pc2 := 196) rfl rfl rfl rfl (by omega) (by omega) (fun _ => True.intro) ?_
  refine z_putP (pc2 := 199) rfl rfl rfl rfl (by first | exact z_fitO _ _ | exact z_fitA _ _) rfl (rfl : _ = ((1, 12, []) : zT)) True.intro ?_
  refine z_aload_n (pc2 := 200) rfl rfl rfl ?_
  refine z_bipush (pc2 := 202) rfl rfl (by decide) ?_
  refine z_newIE (a := 77) (s2 := 231925) (gs := [6]) (pc2 := 204) rfl rfl rfl rfl (by omega) (by omega) (fun k => by show (-1 : Int) ≤ 0 ∧ (0 : Int) ≤ 40; omega) ?_
  refine z_dup (pc2 := 205) rfl rfl rfl ?_
  refine z_iconst (pc2 := 206) rfl rfl ?_
  refine z_iconst (pc2 := 207) rfl rfl ?_
  refine z_iast (pc2 := 208) rfl rfl (rfl : _ = ((2, 0, [24, 6]) : zT)) (by omega) (by omega) (by omega) (by omega) (by show (-1 : Int) ≤ _ ∧ _ ≤ 40; omega) ?_
  refine z_dup (pc2 := 209) rfl rfl rfl ?_
  refine z_iconst (pc2 := 210) rfl rfl ?_
  refine z_iconst (pc2 := 211) rfl rfl ?_
  refine z_iast (pc2 := 212) rfl rfl (rfl : _ = ((2, 0, [24, 6]) : zT)) (by omega) (by omega) (by omega) (by omega) (by show (-1 : Int) ≤ _ ∧ _ ≤ 40; omega) ?_
  refine z_dup (pc2 := 213) rfl rfl rfl ?_
  refine z_iconst (pc2 := 214) rfl rfl ?_
  refine z_iconst (pc2 := 215) rfl rfl ?_
  refine z_iast (pc2 := 216) rfl rfl (rfl : _ = ((2, 0, [24, 6]) : zT)) (by omega) (by omega) (by omega) (by omega) (by show (-1 : Int) ≤ _ ∧ _ ≤ 40; omega) ?_
  refine z_dup (pc2 := 217) rfl rfl rfl ?_
  refine z_iconst (pc2 := 218) rfl rfl ?_
  refine z_iconst (pc2 := 219) rfl rfl ?_
  refine z_iast (pc2 := 220) rfl rfl (rfl : _ = ((2, 0, [24, 6]) : zT)) (by omega) (by omega) (by omega) (by omega) (by show (-1 : Int) ≤ _ ∧ _ ≤ 40; omega) ?_
  refine z_dup (pc2 := 221) rfl rfl rfl ?_
  refine z_iconst (pc2 := 222) rfl rfl ?_
  refine z_iconst (pc2 := 223) rfl rfl ?_
  refine z_iast (pc2 := 224) rfl rfl (rfl : _ = ((2, 0, [24, 6]) : zT)) (by omega) (by omega) (by omega) (by omega) (by show (-1 : Int) ≤ _ ∧ _ ≤ 40; omega) ?_
  refine z_dup (pc2 := 225) rfl rfl rfl ?_
  refine z_iconst (pc2 := 226) rfl rfl ?_
  refine z_iconst (pc2 := 227) rfl rfl ?_
  refine z_iast (pc2 := 228) rfl rfl (rfl : _ = ((2, 0, [24, 6]) : zT)) (by omega) (by omega) (by omega) (by omega) (by show (-1 : Int) ≤ _ ∧ _ ≤ 40; omega) ?_
  refine z_dup (pc2 := 229) rfl rfl rfl ?_
  refine z_bipush (pc2 := 231) rfl rfl (by decide) ?_
  refine z_iconst (pc2 := 232) rfl rfl ?_
  refine z_iast (pc2 := 233) rfl rfl (rfl : _ = ((2, 0, [24, 6]) : zT)) (by omega) (by omega) (by omega) (by omega) (by show (-1 : Int) ≤ _ ∧ _ ≤ 40; omega) ?_
  refine z_dup (pc2 := 234) rfl rfl rfl ?_
  refine z_bipush (pc2 := 236) rfl rfl (by decide) ?_
  refine z_iconst (pc2 := 237) rfl rfl ?_
  refine z_iast (pc2 := 238) rfl rfl (rfl : _ = ((2, 0, [24, 6]) : zT)) (by omega) (by omega) (by omega) (by omega) (by show (-1 : Int) ≤ _ ∧ _ ≤ 40; omega) ?_
  refine z_dup (pc2 := 239) rfl rfl rfl ?_
  refine z_bipush (pc2 := 241) rfl rfl (by decide) ?_
  refine z_iconst (pc2 := 242) rfl rfl ?_
  refine z_iast (pc2 := 243) rfl rfl (rfl : _ = ((2, 0, [24, 6]) : zT)) (by omega) (by omega) (by omega) (by omega) (by show (-1 : Int) ≤ _ ∧ _ ≤ 40; omega) ?_
  refine z_dup (pc2 := 244) rfl rfl rfl ?_
  refine z_bipush (pc2 := 246) rfl rfl (by decide) ?_
  refine z_iconst (pc2 := 247) rfl rfl ?_
  refine z_iast (pc2 := 248) rfl rfl (rfl : _ = ((2, 0, [24, 6]) : zT)) (by omega) (by omega) (by omega) (by omega) (by show (-1 : Int) ≤ _ ∧ _ ≤ 40; omega) ?_
  refine z_dup (pc2 := 249) rfl rfl rfl ?_
  refine z_bipush (pc2 := 251) rfl rfl (by decide) ?_
  refine z_iconst (pc2 := 252) rfl rfl ?_
  refine z_iast (pc2 := 253) rfl rfl (rfl : _ = ((2, 0, [24, 6]) : zT)) (by omega) (by omega) (by omega) (by omega) (by show (-1 : Int) ≤ _ ∧ _ ≤ 40; omega) ?_
  refine z_dup (pc2 := 254) rfl rfl rfl ?_
  refine z_bipush (pc2 := 256) rfl rfl (by decide) ?_
  refine z_iconst (pc2 := 257) rfl rfl ?_
  refine z_iast (pc2 := 258) rfl rfl (rfl : _ = ((2, 0, [24, 6]) : zT)) (by omega) (by omega) (by omega) (by omega) (by show (-1 : Int) ≤ _ ∧ _ ≤ 40; omega) ?_
  refine z_dup (pc2 := 259) rfl rfl rfl ?_
  refine z_bipush (pc2 := 261) rfl rfl (by decide) ?_
  refine z_iconst (pc2 := 262) rfl rfl ?_
  refine z_iast (pc2 := 263) rfl rfl (rfl : _ = ((2, 0, [24, 6]) : zT)) (by omega) (by omega) (by omega) (by omega) (by show (-1 : Int) ≤ _ ∧ _ ≤ 40; omega) ?_
  refine z_dup (pc2 := 264) rfl rfl rfl ?_
  refine z_bipush (pc2 := 266) rfl rfl (by decide) ?_
  refine z_iconst (pc2 := 267) rfl rfl ?_
  refine z_iast (pc2 := 268) rfl rfl (rfl : _ = ((2, 0, [24, 6]) : zT)) (by omega) (by omega) (by omega) (by omega) (by show (-1 : Int) ≤ _ ∧ _ ≤ 40; omega) ?_
  refine z_dup (pc2 := 269) rfl rfl rfl ?_
  refine z_bipush (pc2 := 271) rfl rfl (by decide) ?_
  refine z_iconst (pc2 := 272) rfl rfl ?_
  refine z_iast (pc2 := 273) rfl rfl (rfl : _ = ((2, 0, [24, 6]) : zT)) (by omega) (by omega) (by omega) (by omega) (by show (-1 : Int) ≤ _ ∧ _ ≤ 40; omega) ?_
  refine z_dup (pc2 := 274) rfl rfl rfl ?_
  refine z_bipush (pc2 := 276) rfl rfl (by decide) ?_
  refine z_iconst (pc2 := 277) rfl rfl ?_
  refine z_iast (pc2 := 278) rfl rfl (rfl : _ = ((2, 0, [24, 6]) : zT)) (by omega) (by omega) (by omega) (by omega) (by show (-1 : Int) ≤ _ ∧ _ ≤ 40; omega) ?_
  refine z_dup (pc2 := 279) rfl rfl rfl ?_
  refine z_bipush (pc2 := 281) rfl rfl (by decide) ?_
  refine z_iconst (pc2 := 282) rfl rfl ?_
  refine z_iast (pc2 := 283) rfl rfl (rfl : _ = ((2, 0, [24, 6]) : zT)) (by omega) (by omega) (by omega) (by omega) (by show (-1 : Int) ≤ _ ∧ _ ≤ 40; omega) ?_
  refine z_dup (pc2 := 284) rfl rfl rfl ?_
  refine z_bipush (pc2 := 286) rfl rfl (by decide) ?_
  refine z_iconst (pc2 := 287) rfl rfl ?_
  refine z_iast (pc2 := 288) rfl rfl (rfl : _ = ((2, 0, [24, 6]) : zT)) (by omega) (by omega) (by omega) (by omega) (by show (-1 : Int) ≤ _ ∧ _ ≤ 40; omega) ?_
  refine z_dup (pc2 := 289) rfl rfl rfl ?_
  refine z_bipush (pc2 := 291) rfl rfl (by decide) ?_
  refine z_iconst (pc2 := 292) rfl rfl ?_
  refine z_iast (pc2 := 293) rfl rfl (rfl : _ = ((2, 0, [24, 6]) : zT)) (by omega) (by omega) (by omega) (by omega) (by show (-1 : Int) ≤ _ ∧ _ ≤ 40; omega) ?_
  refine z_dup (pc2 := 294) rfl rfl rfl ?_
  refine z_bipush (pc2 := 296) rfl rfl (by decide) ?_
  refine z_iconst (pc2 := 297) rfl rfl ?_
  refine z_iast (pc2 := 298) rfl rfl (rfl : _ = ((2, 0, [24, 6]) : zT)) (by omega) (by omega) (by omega) (by omega) (by show (-1 : Int) ≤ _ ∧ _ ≤ 40; omega) ?_
  refine z_dup (pc2 := 299) rfl rfl rfl ?_
  refine z_bipush (pc2 := 301) rfl rfl (by decide) ?_
  refine z_iconst (pc2 := 302) rfl rfl ?_
  refine z_iast (pc2 := 303) rfl rfl (rfl : _ = ((2, 0, [24, 6]) : zT)) (by omega) (by omega) (by omega) (by omega) (by show (-1 : Int) ≤ _ ∧ _ ≤ 40; omega) ?_
  refine z_dup (pc2 := 304) rfl rfl rfl ?_
  refine z_bipush (pc2 := 306) rfl rfl (by decide) ?_
  refine z_iconst (pc2 := 307) rfl rfl ?_
  refine z_iast (pc2 := 308) rfl rfl (rfl : _ = ((2, 0, [24, 6]) : zT)) (by omega) (by omega) (by omega) (by omega) (by show (-1 : Int) ≤ _ ∧ _ ≤ 40; omega) ?_
  refine z_dup (pc2 := 309) rfl rfl rfl ?_
  refine z_bipush (pc2 := 311) rfl rfl (by decide) ?_
  refine z_iconst (pc2 := 312) rfl rfl ?_
  refine z_iast (pc2 := 313) rfl rfl (rfl : _ = ((2, 0, [24, 6]) : zT)) (by omega) (by omega) (by omega) (by omega) (by show (-1 : Int) ≤ _ ∧ _ ≤ 40; omega) ?_
  refine z_dup (pc2 := 314) rfl rfl rfl ?_
  refine z_bipush (pc2 := 316) rfl rfl (by decide) ?_
  refine z_iconst (pc2 := 317) rfl rfl ?_
  refine z_iast (pc2 := 318) rfl rfl (rfl : _ = ((2, 0, [24, 6]) : zT)) (by omega) (by omega) (by omega) (by omega) (by show (-1 : Int) ≤ _ ∧ _ ≤ 40; omega) ?_
  refine z_putP (pc2 := 321) rfl rfl rfl rfl (by first | exact z_fitO _ _ | exact z_fitA _ _) rfl (rfl : _ = ((1, 12, []) : zT)) True.intro ?_
  refine z_aload_n (pc2 := 322) rfl rfl rfl ?_
  refine z_sipush (pc2 := 325) rfl rfl (by decide) ?_
  refine z_newIE (a := 78) (s2 := 232885) (gs := [7]) (pc2 := 327) rfl rfl rfl rfl (by omega) (by omega) (fun k => by show (0 : Int) ≤ 0 ∧ (0 : Int) ≤ 127; omega) ?_
  refine z_putP (pc2 := 330) rfl rfl rfl rfl (by first | exact z_fitO _ _ | exact z_fitA _ _) rfl (rfl : _ = ((1, 12, []) : zT)) True.intro ?_
  refine z_aload_n (pc2 := 331) rfl rfl rfl ?_
  refine z_bipush (pc2 := 333) rfl rfl (by decide) ?_
  refine z_newIE (a := 79) (s2 := 232909) (gs := [12]) (pc2 := 335) rfl rfl rfl rfl (by omega) (by omega) (fun k => by show (0 : Int) ≤ 0 ∧ (0 : Int) ≤ 9; omega) ?_
  refine z_dup (pc2 := 336) rfl rfl rfl ?_
  refine z_iconst (pc2 := 337) rfl rfl ?_
  refine z_iconst (pc2 := 338) rfl rfl ?_
  refine z_iast (pc2 := 339) rfl rfl (rfl : _ = ((2, 0, [24, 12]) : zT)) (by omega) (by omega) (by omega) (by omega) (by show (0 : Int) ≤ _ ∧ _ ≤ 9; omega) ?_
  refine z_dup (pc2 := 340) rfl rfl rfl ?_
  refine z_iconst (pc2 := 341) rfl rfl ?_
  refine z_iconst (pc2 := 342) rfl rfl ?_
  refine z_iast (pc2 := 343) rfl rfl (rfl : _ = ((2, 0, [24, 12]) : zT)) (by omega) (by omega) (by omega) (by omega) (by show (0 : Int) ≤ _ ∧ _ ≤ 9; omega) ?_
  refine z_dup (pc2 := 344) rfl rfl rfl ?_
  refine z_iconst (pc2 := 345) rfl rfl ?_
  refine z_iconst (pc2 := 346) rfl rfl ?_
  refine z_iast (pc2 := 347) rfl rfl (rfl : _ = ((2, 0, [24, 12]) : zT)) (by omega) (by omega) (by omega) (by omega) (by show (0 : Int) ≤ _ ∧ _ ≤ 9; omega) ?_
  refine z_dup (pc2 := 348) rfl rfl rfl ?_
  refine z_iconst (pc2 := 349) rfl rfl ?_
  refine z_iconst (pc2 := 350) rfl rfl ?_
  refine z_iast (pc2 := 351) rfl rfl (rfl : _ = ((2, 0, [24, 12]) : zT)) (by omega) (by omega) (by omega) (by omega) (by show (0 : Int) ≤ _ ∧ _ ≤ 9; omega) ?_
  refine z_dup (pc2 := 352) rfl rfl rfl ?_
  refine z_iconst (pc2 := 353) rfl rfl ?_
  refine z_iconst (pc2 := 354) rfl rfl ?_
  refine z_iast (pc2 := 355) rfl rfl (rfl : _ = ((2, 0, [24, 12]) : zT)) (by omega) (by omega) (by omega) (by omega) (by show (0 : Int) ≤ _ ∧ _ ≤ 9; omega) ?_
  refine z_dup (pc2 := 356) rfl rfl rfl ?_
  refine z_iconst (pc2 := 357) rfl rfl ?_
  refine z_iconst (pc2 := 358) rfl rfl ?_
  refine z_iast (pc2 := 359) rfl rfl (rfl : _ = ((2, 0, [24, 12]) : zT)) (by omega) (by omega) (by omega) (by omega) (by show (0 : Int) ≤ _ ∧ _ ≤ 9; omega) ?_
  refine z_dup (pc2 := 360) rfl rfl rfl ?_
  refine z_bipush (pc2 := 362) rfl rfl (by decide) ?_
  refine z_iconst (pc2 := 363) rfl rfl ?_
  refine z_iast (pc2 := 364) rfl rfl (rfl : _ = ((2, 0, [24, 12]) : zT)) (by omega) (by omega) (by omega) (by omega) (by show (0 : Int) ≤ _ ∧ _ ≤ 9; omega) ?_
  refine z_dup (pc2 := 365) rfl rfl rfl ?_
  refine z_bipush (pc2 := 367) rfl rfl (by decide) ?_
  refine z_iconst (pc2 := 368) rfl rfl ?_
  refine z_iast (pc2 := 369) rfl rfl (rfl : _ = ((2, 0, [24, 12]) : zT)) (by omega) (by omega) (by omega) (by omega) (by show (0 : Int) ≤ _ ∧ _ ≤ 9; omega) ?_
  refine z_dup (pc2 := 370) rfl rfl rfl ?_
  refine z_bipush (pc2 := 372) rfl rfl (by decide) ?_
  refine z_iconst (pc2 := 373) rfl rfl ?_
  refine z_iast (pc2 := 374) rfl rfl (rfl : _ = ((2, 0, [24, 12]) : zT)) (by omega) (by omega) (by omega) (by omega) (by show (0 : Int) ≤ _ ∧ _ ≤ 9; omega) ?_
  refine z_dup (pc2 := 375) rfl rfl rfl ?_
  refine z_bipush (pc2 := 377) rfl rfl (by decide) ?_
  refine z_iconst (pc2 := 378) rfl rfl ?_
  refine z_iast (pc2 := 379) rfl rfl (rfl : _ = ((2, 0, [24, 12]) : zT)) (by omega) (by omega) (by omega) (by omega) (by show (0 : Int) ≤ _ ∧ _ ≤ 9; omega) ?_
  refine z_dup (pc2 := 380) rfl rfl rfl ?_
  refine z_bipush (pc2 := 382) rfl rfl (by decide) ?_
  refine z_iconst (pc2 := 383) rfl rfl ?_
  refine z_iast (pc2 := 384) rfl rfl (rfl : _ = ((2, 0, [24, 12]) : zT)) (by omega) (by omega) (by omega) (by omega) (by show (0 : Int) ≤ _ ∧ _ ≤ 9; omega) ?_
  refine z_dup (pc2 := 385) rfl rfl rfl ?_
  refine z_bipush (pc2 := 387) rfl rfl (by decide) ?_
  refine z_iconst (pc2 := 388) rfl rfl ?_
  refine z_iast (pc2 := 389) rfl rfl (rfl : _ = ((2, 0, [24, 12]) : zT)) (by omega) (by omega) (by omega) (by omega) (by show (0 : Int) ≤ _ ∧ _ ≤ 9; omega) ?_
  refine z_dup (pc2 := 390) rfl rfl rfl ?_
  refine z_bipush (pc2 := 392) rfl rfl (by decide) ?_
  refine z_iconst (pc2 := 393) rfl rfl ?_
  refine z_iast (pc2 := 394) rfl rfl (rfl : _ = ((2, 0, [24, 12]) : zT)) (by omega) (by omega) (by omega) (by omega) (by show (0 : Int) ≤ _ ∧ _ ≤ 9; omega) ?_
  refine z_dup (pc2 := 395) rfl rfl rfl ?_
  refine z_bipush (pc2 := 397) rfl rfl (by decide) ?_
  refine z_iconst (pc2 := 398) rfl rfl ?_
  refine z_iast (pc2 := 399) rfl rfl (rfl : _ = ((2, 0, [24, 12]) : zT)) (by omega) (by omega) (by omega) (by omega) (by show (0 : Int) ≤ _ ∧ _ ≤ 9; omega) ?_
  refine z_dup (pc2 := 400) rfl rfl rfl ?_
  refine z_bipush (pc2 := 402) rfl rfl (by decide) ?_
  refine z_iconst (pc2 := 403) rfl rfl ?_
  refine z_iast (pc2 := 404) rfl rfl (rfl : _ = ((2, 0, [24, 12]) : zT)) (by omega) (by omega) (by omega) (by omega) (by show (0 : Int) ≤ _ ∧ _ ≤ 9; omega) ?_
  refine z_dup (pc2 := 405) rfl rfl rfl ?_
  refine z_bipush (pc2 := 407) rfl rfl (by decide) ?_
  refine z_iconst (pc2 := 408) rfl rfl ?_
  refine z_iast (pc2 := 409) rfl rfl (rfl : _ = ((2, 0, [24, 12]) : zT)) (by omega) (by omega) (by omega) (by omega) (by show (0 : Int) ≤ _ ∧ _ ≤ 9; omega) ?_
  refine z_dup (pc2 := 410) rfl rfl rfl ?_
  refine z_bipush (pc2 := 412) rfl rfl (by decide) ?_
  refine z_iconst (pc2 := 413) rfl rfl ?_
  refine z_iast (pc2 := 414) rfl rfl (rfl : _ = ((2, 0, [24, 12]) : zT)) (by omega) (by omega) (by omega) (by omega) (by show (0 : Int) ≤ _ ∧ _ ≤ 9; omega) ?_
  refine z_dup (pc2 := 415) rfl rfl rfl ?_
  refine z_bipush (pc2 := 417) rfl rfl (by decide) ?_
  refine z_iconst (pc2 := 418) rfl rfl ?_
  refine z_iast (pc2 := 419) rfl rfl (rfl : _ = ((2, 0, [24, 12]) : zT)) (by omega) (by omega) (by omega) (by omega) (by show (0 : Int) ≤ _ ∧ _ ≤ 9; omega) ?_
  refine z_dup (pc2 := 420) rfl rfl rfl ?_
  refine z_bipush (pc2 := 422) rfl rfl (by decide) ?_
  refine z_iconst (pc2 := 423) rfl rfl ?_
  refine z_iast (pc2 := 424) rfl rfl (rfl : _ = ((2, 0, [24, 12]) : zT)) (by omega) (by omega) (by omega) (by omega) (by show (0 : Int) ≤ _ ∧ _ ≤ 9; omega) ?_
  refine z_dup (pc2 := 425) rfl rfl rfl ?_
  refine z_bipush (pc2 := 427) rfl rfl (by decide) ?_
  refine z_iconst (pc2 := 428) rfl rfl ?_
  refine z_iast (pc2 := 429) rfl rfl (rfl : _ = ((2, 0, [24, 12]) : zT)) (by omega) (by omega) (by omega) (by omega) (by show (0 : Int) ≤ _ ∧ _ ≤ 9; omega) ?_
  refine z_dup (pc2 := 430) rfl rfl rfl ?_
  refine z_bipush (pc2 := 432) rfl rfl (by decide) ?_
  refine z_iconst (pc2 := 433) rfl rfl ?_
  refine z_iast (pc2 := 434) rfl rfl (rfl : _ = ((2, 0, [24, 12]) : zT)) (by omega) (by omega) (by omega) (by omega) (by show (0 : Int) ≤ _ ∧ _ ≤ 9; omega) ?_
  refine z_dup (pc2 := 435) rfl rfl rfl ?_
  refine z_bipush (pc2 := 437) rfl rfl (by decide) ?_
  refine z_iconst (pc2 := 438) rfl rfl ?_
  refine z_iast (pc2 := 439) rfl rfl (rfl : _ = ((2, 0, [24, 12]) : zT)) (by omega) (by omega) (by omega) (by omega) (by show (0 : Int) ≤ _ ∧ _ ≤ 9; omega) ?_
  refine z_dup (pc2 := 440) rfl rfl rfl ?_
  refine z_bipush (pc2 := 442) rfl rfl (by decide) ?_
  refine z_iconst (pc2 := 443) rfl rfl ?_
  refine z_iast (pc2 := 444) rfl rfl (rfl : _ = ((2, 0, [24, 12]) : zT)) (by omega) (by omega) (by omega) (by omega) (by show (0 : Int) ≤ _ ∧ _ ≤ 9; omega) ?_
  refine z_dup (pc2 := 445) rfl rfl rfl ?_
  refine z_bipush (pc2 := 447) rfl rfl (by decide) ?_
  refine z_iconst (pc2 := 448) rfl rfl ?_
  refine z_iast (pc2 := 449) rfl rfl (rfl : _ = ((2, 0, [24, 12]) : zT)) (by omega) (by omega) (by omega) (by omega) (by show (0 : Int) ≤ _ ∧ _ ≤ 9; omega) ?_
  refine z_putP (pc2 := 452) rfl rfl rfl rfl (by first | exact z_fitO _ _ | exact z_fitA _ _) rfl (rfl : _ = ((1, 12, []) : zT)) True.intro ?_
  refine z_aload_n (pc2 := 453) rfl rfl rfl ?_
  refine z_bipush (pc2 := 455) rfl rfl (by decide) ?_
  refine z_newIE (a := 80) (s2 := 232949) (gs := [0]) (pc2 := 457) rfl rfl rfl rfl (by omega) (by omega) (fun _ => True.intro) ?_
  refine z_putP (pc2 := 460) rfl rfl rfl rfl (by first | exact z_fitO _ _ | exact z_fitA _ _) rfl (rfl : _ = ((1, 12, []) : zT)) True.intro ?_
  refine z_aload_n (pc2 := 461) rfl rfl rfl ?_
  refine z_bipush (pc2 := 463) rfl rfl (by decide) ?_
  refine z_newIE (a := 81) (s2 := 232989) (gs := [8]) (pc2 := 465) rfl rfl rfl rfl (by omega) (by omega) (fun _ => zGd_0) ?_
  refine z_putP (pc2 := 468) rfl rfl rfl rfl (by first | exact z_fitO _ _ | exact z_fitA _ _) rfl (rfl : _ = ((1, 12, []) : zT)) True.intro ?_
  refine z_aload_n (pc2 := 469) rfl rfl rfl ?_
  refine z_bipush (pc2 := 471) rfl rfl (by decide) ?_
  refine z_newIE (a := 82) (s2 := 233031) (gs := [8]) (pc2 := 473) rfl rfl rfl rfl (by omega) (by omega) (fun _ => zGd_0) ?_
  refine z_putP (pc2 := 476) rfl rfl rfl rfl (by first | exact z_fitO _ _ | exact z_fitA _ _) rfl (rfl : _ = ((1, 12, []) : zT)) True.intro ?_
  refine z_aload_n (pc2 := 477) rfl rfl rfl ?_
  refine z_bipush (pc2 := 479) rfl rfl (by decide) ?_
  refine z_newIE (a := 83) (s2 := 233043) (gs := [9]) (pc2 := 481) rfl rfl rfl rfl (by omega) (by omega) (fun k => by show (0 : Int) ≤ 0 ∧ (0 : Int) ≤ 11; omega) ?_
  refine z_putP (pc2 := 484) rfl rfl rfl rfl (by first | exact z_fitO _ _ | exact z_fitA _ _) rfl (rfl : _ = ((1, 12, []) : zT)) True.intro ?_
  refine z_aload_n (pc2 := 485) rfl rfl rfl ?_
  refine z_bipush (pc2 := 487) rfl rfl (by decide) ?_
  refine z_newIE (a := 84) (s2 := 233085) (gs := [10]) (pc2 := 489) rfl rfl rfl rfl (by omega) (by omega) (fun k => by show (0 : Int) ≤ 0 ∧ (0 : Int) ≤ 40; omega) ?_
  refine z_putP (pc2 := 492) rfl rfl rfl rfl (by first | exact z_fitO _ _ | exact z_fitA _ _) rfl (rfl : _ = ((1, 12, []) : zT)) True.intro ?_
  refine z_aload_n (pc2 := 493) rfl rfl rfl ?_
  refine z_bipush (pc2 := 495) rfl rfl (by decide) ?_
  refine z_newIE (a := 85) (s2 := 233127) (gs := [11]) (pc2 := 497) rfl rfl rfl rfl (by omega) (by omega) (fun k => by show (-4 : Int) ≤ 0 ∧ (0 : Int) ≤ 41; omega) ?_
  refine z_putP (pc2 := 500) rfl rfl rfl rfl (by first | exact z_fitO _ _ | exact z_fitA _ _) rfl (rfl : _ = ((1, 12, []) : zT)) True.intro ?_
  refine z_aload_n (pc2 := 501) rfl rfl rfl ?_
  refine z_bipush (pc2 := 503) rfl rfl (by decide) ?_
  refine z_newTE (a := 86) (s2 := 233169) (t := 1) (gs := [0]) (pc2 := 505) rfl rfl rfl rfl rfl (by omega) (by omega) (by omega) ?_
  refine z_putP (pc2 := 508) rfl rfl rfl rfl (by first | exact z_fitO _ _ | exact z_fitA _ _) rfl (rfl : _ = ((1, 12, []) : zT)) True.intro ?_
  refine z_aload_n (pc2 := 509) rfl rfl rfl ?_
  refine z_sipush (pc2 := 512) rfl rfl (by decide) ?_
  refine z_newIE (a := 87) (s2 := 233313) (gs := [0]) (pc2 := 514) rfl rfl rfl rfl (by omega) (by omega) (fun _ => True.intro) ?_
  refine z_putP (pc2 := 517) rfl rfl rfl rfl (by first | exact z_fitO _ _ | exact z_fitA _ _) rfl (rfl : _ = ((1, 12, []) : zT)) True.intro ?_
  refine z_aload_n (pc2 := 518) rfl rfl rfl ?_
  refine z_bipush (pc2 := 520) rfl rfl (by decide) ?_
  refine z_newIE (a := 88) (s2 := 233325) (gs := [9]) (pc2 := 522) rfl rfl rfl rfl (by omega) (by omega) (fun k => by show (0 : Int) ≤ 0 ∧ (0 : Int) ≤ 11; omega) ?_
  refine z_putP (pc2 := 525) rfl rfl rfl rfl (by first | exact z_fitO _ _ | exact z_fitA _ _) rfl (rfl : _ = ((1, 12, []) : zT)) True.intro ?_
  refine z_aload_n (pc2 := 526) rfl rfl rfl ?_
  refine z_bipush (pc2 := 528) rfl rfl (by decide) ?_
  refine z_newIE (a := 89) (s2 := 233425) (gs := [14]) (pc2 := 530) rfl rfl rfl rfl (by omega) (by omega) (fun k => by show (0 : Int) ≤ 0 ∧ (0 : Int) ≤ 100; omega) ?_
  refine z_putP (pc2 := 533) rfl rfl rfl rfl (by first | exact z_fitO _ _ | exact z_fitA _ _) rfl (rfl : _ = ((1, 12, []) : zT)) True.intro ?_
  refine z_aload_n (pc2 := 534) rfl rfl rfl ?_
  refine z_bipush (pc2 := 536) rfl rfl (by decide) ?_
  refine z_newTE (a := 90) (s2 := 233526) (t := 1) (gs := [0]) (pc2 := 538) rfl rfl rfl rfl rfl (by omega) (by omega) (by omega) ?_
  refine z_putP (pc2 := 541) rfl rfl rfl rfl (by first | exact z_fitO _ _ | exact z_fitA _ _) rfl (rfl : _ = ((1, 12, []) : zT)) True.intro ?_
  refine z_aload_n (pc2 := 542) rfl rfl rfl ?_
  refine z_getP (pc2 := 545) rfl rfl rfl rfl (rfl : _ = ((1, 12, []) : zT)) ?_
  intro p1 p1e p1k; clear p1k; replace p1e : p1 = some 57 := p1e; subst p1e
  refine z_sipush (pc2 := 548) rfl rfl (by decide) ?_
  refine z_iconst (pc2 := 549) rfl rfl ?_
  refine z_iast (pc2 := 550) rfl rfl (rfl : _ = ((2, 0, [112200, 1]) : zT)) (by omega) (by omega) (by omega) (by omega) (st_tray (by decide) (by omega)) ?_
  refine z_aload_n (pc2 := 551) rfl rfl rfl ?_
  refine z_getP (pc2 := 554) rfl rfl rfl rfl (rfl : _ = ((1, 12, []) : zT)) ?_
  intro p2 p2e p2k; clear p2k; replace p2e : p2 = some 57 := p2e; subst p2e
  refine z_ldc (56254) (pc2 := 556) rfl rfl rfl ?_
  refine z_iconst (pc2 := 557) rfl rfl ?_
  refine z_iast (pc2 := 558) rfl rfl (rfl : _ = ((2, 0, [112200, 1]) : zT)) (by omega) (by omega) (by omega) (by omega) (st_tray (by decide) (by omega)) ?_
  refine z_ret rfl rfl ?_
  show zB _ _ _ _ _ _ [_] _ _
  refine z_astore_n (lv2 := [(2, _), (1, _), (0, _)]) (pc2 := 16) rfl rfl rfl rfl ?_
  refine z_iconst (pc2 := 17) rfl rfl ?_
  refine z_istore_n (lv2 := [(3, _), (2, _), (1, _), (0, _)]) (pc2 := 18) rfl rfl rfl rfl ?_
  refine zB_rtOE (g := 1) (gs := []) 56 (rfl : _ = ((1, 12, []) : zT)) (fun k => (show zokM k 0 from zokM_0 k)) (zkMo_P (by refine zAll_ok (n := 49) ?_; exact (zAll_s (zAll_s (zAll_s (zAll_s (zAll_s (zAll_s (zAll_s (zAll_s (zAll_s (zAll_s (zAll_s (zAll_s (zAll_s (zAll_s (zAll_s (zAll_s (zAll_s (zAll_s (zAll_s (zAll_s (zAll_s (zAll_s (zAll_s (zAll_s (zAll_s (zAll_s (zAll_s (zAll_s (zAll_s (zAll_s (zAll_s (zAll_s (zAll_s (zAll_s (zAll_s (zAll_s (zAll_s (zAll_s (zAll_s (zAll_s (zAll_s (zAll_s (zAll_s (zAll_s (zAll_s (zAll_s (zAll_s (zAll_s (zAll_s zAll_0 rfl) rfl) rfl) rfl) rfl) rfl) rfl) rfl) rfl) rfl) rfl) rfl) rfl) rfl) rfl) rfl) rfl) rfl) rfl) rfl) rfl) rfl) rfl) rfl) rfl) rfl) rfl) rfl) rfl) rfl) rfl) rfl) rfl) rfl) rfl) rfl) rfl) rfl) rfl) rfl) rfl) rfl) rfl) rfl) rfl) rfl) rfl) rfl) rfl)) (fun k hk => by (repeat (first | refine (zU_na (by omega)).trans ?_ | refine (zU_nk (by omega)).trans ?_ | refine (zRow_na (by omega)).trans ?_)); rfl)) ?_
  refine hE _ _ _ _ (fun a h1 h2 => ?_) ?_ ?_ ?_ g6 ?_ h22 ?_
  · repeat (refine (zUT_ne (by omega)).trans ?_)
    exact hC a h1 h2
  · refine zAll_m (m := 56) (n := 35) rfl ?_
    exact (zAll_s (zAll_s (zAll_s (zAll_s (zAll_s (zAll_s (zAll_s (zAll_s (zAll_s (zAll_s (zAll_s (zAll_s (zAll_s (zAll_s (zAll_s (zAll_s (zAll_s (zAll_s (zAll_s (zAll_s (zAll_s (zAll_s (zAll_s (zAll_s (zAll_s (zAll_s (zAll_s (zAll_s (zAll_s (zAll_s (zAll_s (zAll_s (zAll_s (zAll_s (zAll_s zAll_0 rfl) rfl) rfl) rfl) rfl) rfl) rfl) rfl) rfl) rfl) rfl) rfl) rfl) rfl) rfl) rfl) rfl) rfl) rfl) rfl) rfl) rfl) rfl) rfl) rfl) rfl) rfl) rfl) rfl) rfl) rfl) rfl) rfl) rfl) rfl)
  · refine zRl_0 (fun t => rfl) (by refine zAll_ok (n := 8) ?_; exact (zAll_s (zAll_s (zAll_s (zAll_s (zAll_s (zAll_s (zAll_s (zAll_s zAll_0 rfl) rfl) rfl) rfl) rfl) rfl) rfl) rfl)) (fun A r hA hr => ?_)
    have hr2 : r = 0 ∨ r = 1 := by omega
    rcases hA with rfl | rfl <;> rcases hr2 with rfl | rfl <;> exact ⟨rfl, rfl, rfl, rfl⟩
  · exact zCR_0 g5 g6 ga gb gc gd gf23 gf30 gf42 gf49
  · rfl
  · refine zAll_ok (n := 24) ?_
    exact (zAll_s (zAll_s (zAll_s (zAll_s (zAll_s (zAll_s (zAll_s (zAll_s (zAll_s (zAll_s (zAll_s (zAll_s (zAll_s (zAll_s (zAll_s (zAll_s (zAll_s (zAll_s (zAll_s (zAll_s (zAll_s (zAll_s (zAll_s (zAll_s zAll_0 rfl) rfl) rfl) rfl) rfl) rfl) rfl) rfl) rfl) rfl) rfl) rfl) rfl) rfl) rfl) rfl) rfl) rfl) rfl) rfl) rfl) rfl) rfl) rfl)
