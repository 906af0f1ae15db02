set_option maxHeartbeats 80000000 in
set_option maxRecDepth 20000 in
theorem z_lawA {L : Nat} {xs : Nat → Int32} {K : List zV → zH → Prop} (hE : ∀ (T : Nat → zT) (I : Nat → Nat → Int) (P : Nat → Nat → Option Nat) (G : Nat → Nat → Int), (∀ a, 1 ≤ a → a ≤ 55 → T a = zFixC a) → (P 1 5 = some 18) → (I 1 6 = 0) → (P 18 4 = some 23) → (P 18 5 = some 30) → (P 37 4 = some 42) → (P 37 5 = some 49) → (I 23 6 = 0 ∧ I 23 8 = 0 ∧ I 23 10 = 0) → (I 30 6 = 0 ∧ I 30 8 = 0 ∧ I 30 10 = 0) → (I 42 6 = 0 ∧ I 42 8 = 0 ∧ I 42 10 = 0) → (I 49 6 = 0 ∧ I 49 8 = 0 ∧ I 49 10 = 0) → (∀ k, k < 12 → I 22 k = 2 ∧ I 41 k = 2) → zB zMd L xs 271 8 [(1, .inr (.inl (some 1))), (0, .inr (.inl (some 0)))] [] (55, 2116, T, I, P, G) K) : zB zMd L xs 271 0 [(0, .inr (.inl (some 0)))] [] (0, 0, (fun _ => (0, 0, [])), (fun _ _ => 0), (fun _ _ => none), (fun _ _ => 0)) K := by
  refine z_newE (a := 1) (s2 := 10) (c := 11) (s := 10) (pc2 := 3) rfl rfl rfl rfl rfl rfl (fun _ => True.intro) ?_
  refine z_dup (pc2 := 4) rfl rfl rfl ?_
  refine z_callP (y2 := 105) (as := []) (rest := [_]) (pc2 := 7) rfl rfl rfl rfl ?_
  refine z_inl ?_
  refine z_lv (lv2 := [(0, _)]) ⟨rfl, trivial⟩ ?_
  refine z_aload_n (pc2 := 1) rfl rfl rfl ?_
  refine z_obj (pc2 := 4) rfl rfl rfl rfl ?_
  refine z_aload_n (pc2 := 5) rfl rfl rfl ?_
  refine z_iconst (pc2 := 6) rfl rfl ?_
  refine z_newRE (a := 2) (s2 := 12) (t := 8) (gs := []) (pc2 := 9) rfl rfl rfl rfl rfl rfl (by omega) (by omega) (fun _ _ => True.intro) ?_
  refine z_putP (pc2 := 12) rfl rfl rfl rfl (by first | exact z_fitO _ _ | exact z_fitA _ _) rfl (rfl : _ = ((1, 11, []) : zT)) True.intro ?_
  refine z_aload_n (pc2 := 13) rfl rfl rfl ?_
  refine z_newE (a := 3) (s2 := 14) (c := 10) (s := 2) (pc2 := 16) rfl rfl rfl rfl rfl rfl (fun _ => True.intro) ?_
  refine z_dup (pc2 := 17) rfl rfl rfl ?_
  refine z_callP (y2 := 101) (as := []) (rest := [_, _]) (pc2 := 20) rfl rfl rfl rfl ?_
  refine z_inl ?_
  refine z_lv (lv2 := [(0, _)]) ⟨rfl, trivial⟩ ?_
  refine z_aload_n (pc2 := 1) rfl rfl rfl ?_
  refine z_obj (pc2 := 4) rfl rfl rfl rfl ?_
  refine z_aload_n (pc2 := 5) rfl rfl rfl ?_
  refine z_bipush (pc2 := 7) rfl rfl (by decide) ?_
  refine z_newIE (a := 4) (s2 := 74) (gs := [0]) (pc2 := 9) rfl rfl rfl rfl (by omega) (by omega) (fun _ => True.intro) ?_
  refine z_putP (pc2 := 12) rfl rfl rfl rfl (by first | exact z_fitO _ _ | exact z_fitA _ _) rfl (rfl : _ = ((1, 10, []) : zT)) True.intro ?_
  refine z_aload_n (pc2 := 13) rfl rfl rfl ?_
  refine z_iconst (pc2 := 14) rfl rfl ?_
  refine z_putI (pc2 := 17) rfl rfl rfl rfl rfl rfl (rfl : _ = ((1, 10, []) : zT)) (by omega) True.intro ?_
  refine z_ret rfl rfl ?_
  show zB _ _ _ _ _ _ [_, _] _ _
  refine z_putP (pc2 := 23) rfl rfl rfl rfl (by first | exact z_fitO _ _ | exact z_fitA _ _) rfl (rfl : _ = ((1, 11, []) : zT)) True.intro ?_
  refine z_aload_n (pc2 := 24) rfl rfl rfl ?_
  refine z_newE (a := 5) (s2 := 80) (c := 7) (s := 6) (pc2 := 27) rfl rfl rfl rfl rfl rfl (fun _ => True.intro) ?_
  refine z_dup (pc2 := 28) rfl rfl rfl ?_
  refine z_callP (y2 := 63) (as := []) (rest := [_, _]) (pc2 := 31) rfl rfl rfl rfl ?_
  refine z_inl ?_
  refine z_lv (lv2 := [(0, _)]) ⟨rfl, trivial⟩ ?_
  refine z_aload_n (pc2 := 1) rfl rfl rfl ?_
  refine z_obj (pc2 := 4) rfl rfl rfl rfl ?_
  refine z_aload_n (pc2 := 5) rfl rfl rfl ?_
  refine z_bipush (pc2 := 7) rfl rfl (by decide) ?_
  refine z_newIE (a := 6) (s2 := 120) (gs := [20]) (pc2 := 9) rfl rfl rfl rfl (by omega) (by omega) (fun k => by show (0 : Int) ≤ 0 ∧ (0 : Int) ≤ 7; omega) ?_
  refine z_putP (pc2 := 12) rfl rfl rfl rfl (by first | exact z_fitO _ _ | exact z_fitA _ _) rfl (rfl : _ = ((1, 7, []) : zT)) True.intro ?_
  refine z_aload_n (pc2 := 13) rfl rfl rfl ?_
  refine z_bipush (pc2 := 15) rfl rfl (by decide) ?_
  refine z_newIE (a := 7) (s2 := 160) (gs := [21]) (pc2 := 17) rfl rfl rfl rfl (by omega) (by omega) (fun k => by show (0 : Int) ≤ 0 ∧ (0 : Int) ≤ 23; omega) ?_
  refine z_putP (pc2 := 20) rfl rfl rfl rfl (by first | exact z_fitO _ _ | exact z_fitA _ _) rfl (rfl : _ = ((1, 7, []) : zT)) True.intro ?_
  refine z_aload_n (pc2 := 21) rfl rfl rfl ?_
  refine z_bipush (pc2 := 23) rfl rfl (by decide) ?_
  refine z_newIE (a := 8) (s2 := 200) (gs := [21]) (pc2 := 25) rfl rfl rfl rfl (by omega) (by omega) (fun k => by show (0 : Int) ≤ 0 ∧ (0 : Int) ≤ 23; omega) ?_
  refine z_putP (pc2 := 28) rfl rfl rfl rfl (by first | exact z_fitO _ _ | exact z_fitA _ _) rfl (rfl : _ = ((1, 7, []) : zT)) True.intro ?_
  refine z_aload_n (pc2 := 29) rfl rfl rfl ?_
  refine z_iconst (pc2 := 30) rfl rfl ?_
  refine z_putI (pc2 := 33) rfl rfl rfl rfl rfl rfl (rfl : _ = ((1, 7, []) : zT)) (by omega) True.intro ?_
  refine z_aload_n (pc2 := 34) rfl rfl rfl ?_
  refine z_aconst_null (pc2 := 35) rfl rfl ?_
  refine z_putP (pc2 := 38) rfl rfl rfl rfl (by first | exact z_fitO _ _ | exact z_fitA _ _) rfl (rfl : _ = ((1, 7, []) : zT)) True.intro ?_
  refine z_aload_n (pc2 := 39) rfl rfl rfl ?_
  refine z_aconst_null (pc2 := 40) rfl rfl ?_
  refine z_putP (pc2 := 43) rfl rfl rfl rfl (by first | exact z_fitO _ _ | exact z_fitA _ _) rfl (rfl : _ = ((1, 7, []) : zT)) True.intro ?_
  refine z_ret rfl rfl ?_
  show zB _ _ _ _ _ _ [_, _] _ _
  refine z_putP (pc2 := 34) rfl rfl rfl rfl (by first | exact z_fitO _ _ | exact z_fitA _ _) rfl (rfl : _ = ((1, 11, []) : zT)) True.intro ?_
  refine z_aload_n (pc2 := 35) rfl rfl rfl ?_
  refine z_newE (a := 9) (s2 := 217) (c := 0) (s := 17) (pc2 := 38) rfl rfl rfl rfl rfl rfl (fun _ => True.intro) ?_
  refine z_dup (pc2 := 39) rfl rfl rfl ?_
  refine z_callP (y2 := 0) (as := []) (rest := [_, _]) (pc2 := 42) rfl rfl rfl rfl ?_
  refine z_inl ?_
  refine z_lv (lv2 := [(0, _)]) ⟨rfl, trivial⟩ ?_
  refine z_aload_n (pc2 := 1) rfl rfl rfl ?_
  refine z_obj (pc2 := 4) rfl rfl rfl rfl ?_
  refine z_aload_n (pc2 := 5) rfl rfl rfl ?_
  refine z_bipush (pc2 := 7) rfl rfl (by decide) ?_
  refine z_newRE (a := 10) (s2 := 257) (t := 6) (gs := [1]) (pc2 := 10) rfl rfl rfl rfl rfl rfl (by omega) (by omega) (fun _ _ => Or.inl rfl) ?_
  refine z_putP (pc2 := 13) rfl rfl rfl rfl (by first | exact z_fitO _ _ | exact z_fitA _ _) rfl (rfl : _ = ((1, 0, []) : zT)) True.intro ?_
  refine z_aload_n (pc2 := 14) rfl rfl rfl ?_
  refine z_iconst (pc2 := 15) rfl rfl ?_
  refine z_putI (pc2 := 18) rfl rfl rfl rfl rfl rfl (rfl : _ = ((1, 0, []) : zT)) (by omega) True.intro ?_
  refine z_aload_n (pc2 := 19) rfl rfl rfl ?_
  refine z_iconst (pc2 := 20) rfl rfl ?_
  refine z_putI (pc2 := 23) rfl rfl rfl rfl rfl rfl (rfl : _ = ((1, 0, []) : zT)) (by omega) True.intro ?_
  refine z_aload_n (pc2 := 24) rfl rfl rfl ?_
  refine z_bipush (pc2 := 26) rfl rfl (by decide) ?_
  refine z_newIE (a := 11) (s2 := 298) (gs := [0]) (pc2 := 28) rfl rfl rfl rfl (by omega) (by omega) (fun _ => True.intro) ?_
  refine z_putP (pc2 := 31) rfl rfl rfl rfl (by first | exact z_fitO _ _ | exact z_fitA _ _) rfl (rfl : _ = ((1, 0, []) : zT)) True.intro ?_
  refine z_aload_n (pc2 := 32) rfl rfl rfl ?_
  refine z_bipush (pc2 := 34) rfl rfl (by decide) ?_
  refine z_newIE (a := 12) (s2 := 339) (gs := [22]) (pc2 := 36) rfl rfl rfl rfl (by omega) (by omega) (fun k => by show (0 : Int) ≤ 0 ∧ (0 : Int) ≤ 40; omega) ?_
  refine z_putP (pc2 := 39) rfl rfl rfl rfl (by first | exact z_fitO _ _ | exact z_fitA _ _) rfl (rfl : _ = ((1, 0, []) : zT)) True.intro ?_
  refine z_aload_n (pc2 := 40) rfl rfl rfl ?_
  refine z_sipush (pc2 := 43) rfl rfl (by decide) ?_
  refine z_newIE (a := 13) (s2 := 483) (gs := [0]) (pc2 := 45) rfl rfl rfl rfl (by omega) (by omega) (fun _ => True.intro) ?_
  refine z_putP (pc2 := 48) rfl rfl rfl rfl (by first | exact z_fitO _ _ | exact z_fitA _ _) rfl (rfl : _ = ((1, 0, []) : zT)) True.intro ?_
  refine z_aload_n (pc2 := 49) rfl rfl rfl ?_
  refine z_aconst_null (pc2 := 50) rfl rfl ?_
  refine z_putP (pc2 := 53) rfl rfl rfl rfl (by first | exact z_fitO _ _ | exact z_fitA _ _) rfl (rfl : _ = ((1, 0, []) : zT)) True.intro ?_
  refine z_aload_n (pc2 := 54) rfl rfl rfl ?_
  refine z_aconst_null (pc2 := 55) rfl rfl ?_
  refine z_putP (pc2 := 58) rfl rfl rfl rfl (by first | exact z_fitO _ _ | exact z_fitA _ _) rfl (rfl : _ = ((1, 0, []) : zT)) True.intro ?_
  refine z_aload_n (pc2 := 59) rfl rfl rfl ?_
  refine z_iconst (pc2 := 60) rfl rfl ?_
  refine z_putI (pc2 := 63) rfl rfl rfl rfl rfl rfl (rfl : _ = ((1, 0, []) : zT)) (by omega) True.intro ?_
  refine z_aload_n (pc2 := 64) rfl rfl rfl ?_
  refine z_iconst (pc2 := 65) rfl rfl ?_
  refine z_putI (pc2 := 68) rfl rfl rfl rfl rfl rfl (rfl : _ = ((1, 0, []) : zT)) (by omega) True.intro ?_
  refine z_aload_n (pc2 := 69) rfl rfl rfl ?_
  refine z_iconst (pc2 := 70) rfl rfl ?_
  refine z_putI (pc2 := 73) rfl rfl rfl rfl rfl rfl (rfl : _ = ((1, 0, []) : zT)) (by omega) True.intro ?_
  refine z_aload_n (pc2 := 74) rfl rfl rfl ?_
  refine z_iconst (pc2 := 75) rfl rfl ?_
  refine z_putI (pc2 := 78) rfl rfl rfl rfl rfl rfl (rfl : _ = ((1, 0, []) : zT)) (by omega) True.intro ?_
  refine z_aload_n (pc2 := 79) rfl rfl rfl ?_
  refine z_iconst (pc2 := 80) rfl rfl ?_
  refine z_putI (pc2 := 83) rfl rfl rfl rfl rfl rfl (rfl : _ = ((1, 0, []) : zT)) (by omega) True.intro ?_
  refine z_aload_n (pc2 := 84) rfl rfl rfl ?_
  refine z_iconst (pc2 := 85) rfl rfl ?_
  refine z_putI (pc2 := 88) rfl rfl rfl rfl rfl rfl (rfl : _ = ((1, 0, []) : zT)) (by omega) True.intro ?_
  refine z_aload_n (pc2 := 89) rfl rfl rfl ?_
  refine z_iconst (pc2 := 90) rfl rfl ?_
  refine z_putI (pc2 := 93) rfl rfl rfl rfl rfl rfl (rfl : _ = ((1, 0, []) : zT)) (by omega) True.intro ?_
  refine z_aload_n (pc2 := 94) rfl rfl rfl ?_
  refine z_iconst (pc2 := 95) rfl rfl ?_
  refine z_putI (pc2 := 98) rfl rfl rfl rfl rfl rfl (rfl : _ = ((1, 0, []) : zT)) (by omega) True.intro ?_
  refine z_aload_n (pc2 := 99) rfl rfl rfl ?_
  refine z_iconst (pc2 := 100) rfl rfl ?_
  refine z_putI (pc2 := 103) rfl rfl rfl rfl rfl rfl (rfl : _ = ((1, 0, []) : zT)) (by omega) True.intro ?_
  refine z_ret rfl rfl ?_
  show zB _ _ _ _ _ _ [_, _] _ _
  refine z_putP (pc2 := 45) rfl rfl rfl rfl (by first | exact z_fitO _ _ | exact z_fitA _ _) rfl (rfl : _ = ((1, 11, []) : zT)) True.intro ?_
  refine z_aload_n (pc2 := 46) rfl rfl rfl ?_
  refine z_newE (a := 14) (s2 := 492) (c := 6) (s := 9) (pc2 := 49) rfl rfl rfl rfl rfl rfl (fun _ => True.intro) ?_
  refine z_dup (pc2 := 50) rfl rfl rfl ?_
  refine z_callP (y2 := 53) (as := []) (rest := [_, _]) (pc2 := 53) rfl rfl rfl rfl ?_
  refine z_inl ?_
  refine z_lv (lv2 := [(0, _)]) ⟨rfl, trivial⟩ ?_
  refine z_aload_n (pc2 := 1) rfl rfl rfl ?_
  refine z_obj (pc2 := 4) rfl rfl rfl rfl ?_
  refine z_aload_n (pc2 := 5) rfl rfl rfl ?_
  refine z_bipush (pc2 := 7) rfl rfl (by decide) ?_
  refine z_newTE (a := 15) (s2 := 533) (t := 1) (gs := [0]) (pc2 := 9) rfl rfl rfl rfl rfl (by omega) (by omega) (by omega) ?_
  refine z_putP (pc2 := 12) rfl rfl rfl rfl (by first | exact z_fitO _ _ | exact z_fitA _ _) rfl (rfl : _ = ((1, 6, []) : zT)) True.intro ?_
  refine z_aload_n (pc2 := 13) rfl rfl rfl ?_
  refine z_bipush (pc2 := 15) rfl rfl (by decide) ?_
  refine z_newIE (a := 16) (s2 := 574) (gs := [23]) (pc2 := 17) rfl rfl rfl rfl (by omega) (by omega) (fun k => by show (0 : Int) ≤ 0 ∧ (0 : Int) ≤ 40; omega) ?_
  refine z_putP (pc2 := 20) rfl rfl rfl rfl (by first | exact z_fitO _ _ | exact z_fitA _ _) rfl (rfl : _ = ((1, 6, []) : zT)) True.intro ?_
  refine z_aload_n (pc2 := 21) rfl rfl rfl ?_
  refine z_bipush (pc2 := 23) rfl rfl (by decide) ?_
  refine z_newIE (a := 17) (s2 := 586) (gs := [9]) (pc2 := 25) rfl rfl rfl rfl (by omega) (by omega) (fun k => by show (0 : Int) ≤ 0 ∧ (0 : Int) ≤ 11; omega) ?_
  refine z_putP (pc2 := 28) rfl rfl rfl rfl (by first | exact z_fitO _ _ | exact z_fitA _ _) rfl (rfl : _ = ((1, 6, []) : zT)) True.intro ?_
  refine z_aload_n (pc2 := 29) rfl rfl rfl ?_
  refine z_aconst_null (pc2 := 30) rfl rfl ?_
  refine z_putP (pc2 := 33) rfl rfl rfl rfl (by first | exact z_fitO _ _ | exact z_fitA _ _) rfl (rfl : _ = ((1, 6, []) : zT)) True.intro ?_
  refine z_aload_n (pc2 := 34) rfl rfl rfl ?_
  refine z_aconst_null (pc2 := 35) rfl rfl ?_
  refine z_putP (pc2 := 38) rfl rfl rfl rfl (by first | exact z_fitO _ _ | exact z_fitA _ _) rfl (rfl : _ = ((1, 6, []) : zT)) True.intro ?_
  refine z_aload_n (pc2 := 39) rfl rfl rfl ?_
  refine z_iconst (pc2 := 40) rfl rfl ?_
  refine z_putI (pc2 := 43) rfl rfl rfl rfl rfl rfl (rfl : _ = ((1, 6, []) : zT)) (by omega) True.intro ?_
  refine z_aload_n (pc2 := 44) rfl rfl rfl ?_
  refine z_iconst (pc2 := 45) rfl rfl ?_
  refine z_putI (pc2 := 48) rfl rfl rfl rfl rfl rfl (rfl : _ = ((1, 6, []) : zT)) (by omega) True.intro ?_
  refine z_aload_n (pc2 := 49) rfl rfl rfl ?_
  refine z_iconst (pc2 := 50) rfl rfl ?_
  refine z_putI (pc2 := 53) rfl rfl rfl rfl rfl rfl (rfl : _ = ((1, 6, []) : zT)) (by omega) True.intro ?_
  refine z_aload_n (pc2 := 54) rfl rfl rfl ?_
  refine z_iconst (pc2 := 55) rfl rfl ?_
  refine z_putI (pc2 := 58) rfl rfl rfl rfl rfl rfl (rfl : _ = ((1, 6, []) : zT)) (by omega) True.intro ?_
  refine z_ret rfl rfl ?_
  show zB _ _ _ _ _ _ [_, _] _ _
  refine z_putP (pc2 := 56) rfl rfl rfl rfl (by first | exact z_fitO _ _ | exact z_fitA _ _) rfl (rfl : _ = ((1, 11, []) : zT)) True.intro ?_
  refine z_aload_n (pc2 := 57) rfl rfl rfl ?_
  refine z_iconst (pc2 := 58) rfl rfl ?_
  refine z_putI (pc2 := 61) rfl rfl rfl rfl rfl rfl (rfl : _ = ((1, 11, []) : zT)) (by omega) True.intro ?_
  refine z_aload_n (pc2 := 62) rfl rfl rfl ?_
  refine z_iconst (pc2 := 63) rfl rfl ?_
  refine z_putI (pc2 := 66) rfl rfl rfl rfl rfl rfl (rfl : _ = ((1, 11, []) : zT)) (by omega) True.intro ?_
  refine z_aload_n (pc2 := 67) rfl rfl rfl ?_
  refine z_iconst (pc2 := 68) rfl rfl ?_
  refine z_putI (pc2 := 71) rfl rfl rfl rfl rfl rfl (rfl : _ = ((1, 11, []) : zT)) (by omega) True.intro ?_
  refine z_aload_n (pc2 := 72) rfl rfl rfl ?_
  refine z_iconst (pc2 := 73) rfl rfl ?_
  refine z_putI (pc2 := 76) rfl rfl rfl rfl rfl rfl (rfl : _ = ((1, 11, []) : zT)) (by omega) True.intro ?_
  refine z_iconst (pc2 := 77) rfl rfl ?_
  refine z_istore_n (lv2 := [(1, _), (0, _)]) (pc2 := 78) rfl rfl rfl rfl ?_
  refine z_iload_n (pc2 := 79) rfl rfl rfl ?_
  refine z_iconst (pc2 := 80) rfl rfl ?_
  refine z_icmp_ge (t := 102) (pc2 := 83) rfl rfl rfl (by omega) (by omega) (fun c1 => by exfalso; omega) (fun c1 => ?_)
  refine z_aload_n (pc2 := 84) rfl rfl rfl ?_
  refine z_getP (pc2 := 87) rfl rfl rfl rfl (rfl : _ = ((1, 11, []) : zT)) ?_
  intro p2 p2e p2k; clear p2k; replace p2e : p2 = some 2 := p2e; subst p2e
  refine z_iload_n (pc2 := 88) rfl rfl rfl ?_
  refine z_newE (a := 18) (s2 := 593) (c := 8) (s := 7) (pc2 := 91) rfl rfl rfl rfl rfl rfl (fun _ => True.intro) ?_
  refine z_dup (pc2 := 92) rfl rfl rfl ?_
  refine z_callP (y2 := 76) (as := []) (rest := [_, _, _]) (pc2 := 95) rfl rfl rfl rfl ?_
  refine z_inl ?_
  refine z_lv (lv2 := [(0, _)]) ⟨rfl, trivial⟩ ?_
  refine z_aload_n (pc2 := 1) rfl rfl rfl ?_
  refine z_obj (pc2 := 4) rfl rfl rfl rfl ?_
  refine z_aload_n (pc2 := 5) rfl rfl rfl ?_
  refine z_iconst (pc2 := 6) rfl rfl ?_
  refine z_newRE (a := 19) (s2 := 597) (t := 5) (gs := [1]) (pc2 := 9) rfl rfl rfl rfl rfl rfl (by omega) (by omega) (fun _ _ => Or.inl rfl) ?_
  refine z_putP (pc2 := 12) rfl rfl rfl rfl (by first | exact z_fitO _ _ | exact z_fitA _ _) rfl (rfl : _ = ((1, 8, []) : zT)) True.intro ?_
  refine z_aload_n (pc2 := 13) rfl rfl rfl ?_
  refine z_iconst (pc2 := 14) rfl rfl ?_
  refine z_newIE (a := 20) (s2 := 601) (gs := [0]) (pc2 := 16) rfl rfl rfl rfl (by omega) (by omega) (fun _ => True.intro) ?_
  refine z_putP (pc2 := 19) rfl rfl rfl rfl (by first | exact z_fitO _ _ | exact z_fitA _ _) rfl (rfl : _ = ((1, 8, []) : zT)) True.intro ?_
  refine z_aload_n (pc2 := 20) rfl rfl rfl ?_
  refine z_bipush (pc2 := 22) rfl rfl (by decide) ?_
  refine z_newRE (a := 21) (s2 := 613) (t := 3) (gs := [1]) (pc2 := 25) rfl rfl rfl rfl rfl rfl (by omega) (by omega) (fun _ _ => Or.inl rfl) ?_
  refine z_putP (pc2 := 28) rfl rfl rfl rfl (by first | exact z_fitO _ _ | exact z_fitA _ _) rfl (rfl : _ = ((1, 8, []) : zT)) True.intro ?_
  refine z_aload_n (pc2 := 29) rfl rfl rfl ?_
  refine z_bipush (pc2 := 31) rfl rfl (by decide) ?_
  refine z_newIE (a := 22) (s2 := 625) (gs := [12]) (pc2 := 33) rfl rfl rfl rfl (by omega) (by omega) (fun k => by show (0 : Int) ≤ 0 ∧ (0 : Int) ≤ 9; omega) ?_
  refine z_putP (pc2 := 36) rfl rfl rfl rfl (by first | exact z_fitO _ _ | exact z_fitA _ _) rfl (rfl : _ = ((1, 8, []) : zT)) True.intro ?_
  refine z_aload_n (pc2 := 37) rfl rfl rfl ?_
  refine z_newE (a := 23) (s2 := 636) (c := 1) (s := 11) (pc2 := 40) rfl rfl rfl rfl rfl rfl (fun _ => True.intro) ?_
  refine z_dup (pc2 := 41) rfl rfl rfl ?_
  refine z_callP (y2 := 21) (as := []) (rest := [_, _]) (pc2 := 44) rfl rfl rfl rfl ?_
  refine z_inl ?_
  refine z_lv (lv2 := [(0, _)]) ⟨rfl, trivial⟩ ?_
  refine z_aload_n (pc2 := 1) rfl rfl rfl ?_
  refine z_obj (pc2 := 4) rfl rfl rfl rfl ?_
  refine z_aload_n (pc2 := 5) rfl rfl rfl ?_
  refine z_sipush (pc2 := 8) rfl rfl (by decide) ?_
  refine z_newIE (a := 24) (s2 := 780) (gs := [0]) (pc2 := 10) rfl rfl rfl rfl (by omega) (by omega) (fun _ => True.intro) ?_
  refine z_putP (pc2 := 13) rfl rfl rfl rfl (by first | exact z_fitO _ _ | exact z_fitA _ _) rfl (rfl : _ = ((1, 1, []) : zT)) True.intro ?_
  refine z_aload_n (pc2 := 14) rfl rfl rfl ?_
  refine z_bipush (pc2 := 16) rfl rfl (by decide) ?_
  refine z_newRE (a := 25) (s2 := 790) (t := 9) (gs := [1]) (pc2 := 19) rfl rfl rfl rfl rfl rfl (by omega) (by omega) (fun _ _ => Or.inl rfl) ?_
  refine z_putP (pc2 := 22) rfl rfl rfl rfl (by first | exact z_fitO _ _ | exact z_fitA _ _) rfl (rfl : _ = ((1, 1, []) : zT)) True.intro ?_
  refine z_aload_n (pc2 := 23) rfl rfl rfl ?_
  refine z_bipush (pc2 := 25) rfl rfl (by decide) ?_
  refine z_newRE (a := 26) (s2 := 798) (t := 9) (gs := [1]) (pc2 := 28) rfl rfl rfl rfl rfl rfl (by omega) (by omega) (fun _ _ => Or.inl rfl) ?_
  refine z_putP (pc2 := 31) rfl rfl rfl rfl (by first | exact z_fitO _ _ | exact z_fitA _ _) rfl (rfl : _ = ((1, 1, []) : zT)) True.intro ?_
  refine z_aload_n (pc2 := 32) rfl rfl rfl ?_
  refine z_iconst (pc2 := 33) rfl rfl ?_
  refine z_putI (pc2 := 36) rfl rfl rfl rfl rfl rfl (rfl : _ = ((1, 1, []) : zT)) (by omega) True.intro ?_
  refine z_aload_n (pc2 := 37) rfl rfl rfl ?_
  refine z_iconst (pc2 := 38) rfl rfl ?_
  refine z_putI (pc2 := 41) rfl rfl rfl rfl rfl rfl (rfl : _ = ((1, 1, []) : zT)) (by omega) True.intro ?_
  refine z_aload_n (pc2 := 42) rfl rfl rfl ?_
  refine z_bipush (pc2 := 44) rfl rfl (by decide) ?_
  refine z_newRE (a := 27) (s2 := 887) (t := 6) (gs := [1]) (pc2 := 47) rfl rfl rfl rfl rfl rfl (by omega) (by omega) (fun _ _ => Or.inl rfl) ?_
  refine z_putP (pc2 := 50) rfl rfl rfl rfl (by first | exact z_fitO _ _ | exact z_fitA _ _) rfl (rfl : _ = ((1, 1, []) : zT)) True.intro ?_
  refine z_aload_n (pc2 := 51) rfl rfl rfl ?_
  refine z_iconst (pc2 := 52) rfl rfl ?_
  refine z_putI (pc2 := 55) rfl rfl rfl rfl rfl rfl (rfl : _ = ((1, 1, []) : zT)) (by omega) True.intro ?_
  refine z_aload_n (pc2 := 56) rfl rfl rfl ?_
  refine z_bipush (pc2 := 58) rfl rfl (by decide) ?_
  refine z_newRE (a := 28) (s2 := 976) (t := 7) (gs := [1]) (pc2 := 61) rfl rfl rfl rfl rfl rfl (by omega) (by omega) (fun _ _ => Or.inl rfl) ?_
  refine z_putP (pc2 := 64) rfl rfl rfl rfl (by first | exact z_fitO _ _ | exact z_fitA _ _) rfl (rfl : _ = ((1, 1, []) : zT)) True.intro ?_
  refine z_aload_n (pc2 := 65) rfl rfl rfl ?_
  refine z_iconst (pc2 := 66) rfl rfl ?_
  refine z_putI (pc2 := 69) rfl rfl rfl rfl rfl rfl (rfl : _ = ((1, 1, []) : zT)) (by omega) True.intro ?_
  refine z_aload_n (pc2 := 70) rfl rfl rfl ?_
  refine z_bipush (pc2 := 72) rfl rfl (by decide) ?_
  refine z_newRE (a := 29) (s2 := 988) (t := 4) (gs := [1]) (pc2 := 75) rfl rfl rfl rfl rfl rfl (by omega) (by omega) (fun _ _ => Or.inl rfl) ?_
  refine z_putP (pc2 := 78) rfl rfl rfl rfl (by first | exact z_fitO _ _ | exact z_fitA _ _) rfl (rfl : _ = ((1, 1, []) : zT)) True.intro ?_
  refine z_aload_n (pc2 := 79) rfl rfl rfl ?_
  refine z_iconst (pc2 := 80) rfl rfl ?_
  refine z_putI (pc2 := 83) rfl rfl rfl rfl rfl rfl (rfl : _ = ((1, 1, []) : zT)) (by omega) True.intro ?_
  refine z_ret rfl rfl ?_
  show zB _ _ _ _ _ _ [_, _] _ _
  refine z_putP (pc2 := 47) rfl rfl rfl rfl (by first | exact z_fitO _ _ | exact z_fitA _ _) rfl (rfl : _ = ((1, 8, []) : zT)) True.intro ?_
  refine z_aload_n (pc2 := 48) rfl rfl rfl ?_
  refine z_newE (a := 30) (s2 := 999) (c := 1) (s := 11) (pc2 := 51) rfl rfl rfl rfl rfl rfl (fun _ => True.intro) ?_
  refine z_dup (pc2 := 52) rfl rfl rfl ?_
  refine z_callP (y2 := 21) (as := []) (rest := [_, _]) (pc2 := 55) rfl rfl rfl rfl ?_
  refine z_inl ?_
  refine z_lv (lv2 := [(0, _)]) ⟨rfl, trivial⟩ ?_
  refine z_aload_n (pc2 := 1) rfl rfl rfl ?_
  refine z_obj (pc2 := 4) rfl rfl rfl rfl ?_
  refine z_aload_n (pc2 := 5) rfl rfl rfl ?_
  refine z_sipush (pc2 := 8) rfl rfl (by decide) ?_
  refine z_newIE (a := 31) (s2 := 1143) (gs := [0]) (pc2 := 10) rfl rfl rfl rfl (by omega) (by omega) (fun _ => True.intro) ?_
  refine z_putP (pc2 := 13) rfl rfl rfl rfl (by first | exact z_fitO _ _ | exact z_fitA _ _) rfl (rfl : _ = ((1, 1, []) : zT)) True.intro ?_
  refine z_aload_n (pc2 := 14) rfl rfl rfl ?_
  refine z_bipush (pc2 := 16) rfl rfl (by decide) ?_
  refine z_newRE (a := 32) (s2 := 1153) (t := 9) (gs := [1]) (pc2 := 19) rfl rfl rfl rfl rfl rfl (by omega) (by omega) (fun _ _ => Or.inl rfl) ?_
  refine z_putP (pc2 := 22) rfl rfl rfl rfl (by first | exact z_fitO _ _ | exact z_fitA _ _) rfl (rfl : _ = ((1, 1, []) : zT)) True.intro ?_
  refine z_aload_n (pc2 := 23) rfl rfl rfl ?_
  refine z_bipush (pc2 := 25) rfl rfl (by decide) ?_
  refine z_newRE (a := 33) (s2 := 1161) (t := 9) (gs := [1]) (pc2 := 28) rfl rfl rfl rfl rfl rfl (by omega) (by omega) (fun _ _ => Or.inl rfl) ?_
  refine z_putP (pc2 := 31) rfl rfl rfl rfl (by first | exact z_fitO _ _ | exact z_fitA _ _) rfl (rfl : _ = ((1, 1, []) : zT)) True.intro ?_
  refine z_aload_n (pc2 := 32) rfl rfl rfl ?_
  refine z_iconst (pc2 := 33) rfl rfl ?_
  refine z_putI (pc2 := 36) rfl rfl rfl rfl rfl rfl (rfl : _ = ((1, 1, []) : zT)) (by omega) True.intro ?_
  refine z_aload_n (pc2 := 37) rfl rfl rfl ?_
  refine z_iconst (pc2 := 38) rfl rfl ?_
  refine z_putI (pc2 := 41) rfl rfl rfl rfl rfl rfl (rfl : _ = ((1, 1, []) : zT)) (by omega) True.intro ?_
  refine z_aload_n (pc2 := 42) rfl rfl rfl ?_
  refine z_bipush (pc2 := 44) rfl rfl (by decide) ?_
  refine z_newRE (a := 34) (s2 := 1250) (t := 6) (gs := [1]) (pc2 := 47) rfl rfl rfl rfl rfl rfl (by omega) (by omega) (fun _ _ => Or.inl rfl) ?_
  refine z_putP (pc2 := 50) rfl rfl rfl rfl (by first | exact z_fitO _ _ | exact z_fitA _ _) rfl (rfl : _ = ((1, 1, []) : zT)) True.intro ?_
  refine z_aload_n (pc2 := 51) rfl rfl rfl ?_
  refine z_iconst (pc2 := 52) rfl rfl ?_
  refine z_putI (pc2 := 55) rfl rfl rfl rfl rfl rfl (rfl : _ = ((1, 1, []) : zT)) (by omega) True.intro ?_
  refine z_aload_n (pc2 := 56) rfl rfl rfl ?_
  refine z_bipush (pc2 := 58) rfl rfl (by decide) ?_
  refine z_newRE (a := 35) (s2 := 1339) (t := 7) (gs := [1]) (pc2 := 61) rfl rfl rfl rfl rfl rfl (by omega) (by omega) (fun _ _ => Or.inl rfl) ?_
  refine z_putP (pc2 := 64) rfl rfl rfl rfl (by first | exact z_fitO _ _ | exact z_fitA _ _) rfl (rfl : _ = ((1, 1, []) : zT)) True.intro ?_
  refine z_aload_n (pc2 := 65) rfl rfl rfl ?_
  refine z_iconst (pc2 := 66) rfl rfl ?_
  refine z_putI (pc2 := 69) rfl rfl rfl rfl rfl rfl (rfl : _ = ((1, 1, []) : zT)) (by omega) True.intro ?_
  refine z_aload_n (pc2 := 70) rfl rfl rfl ?_
  refine z_bipush (pc2 := 72) rfl rfl (by decide) ?_
  refine z_newRE (a := 36) (s2 := 1351) (t := 4) (gs := [1]) (pc2 := 75) rfl rfl rfl rfl rfl rfl (by omega) (by omega) (fun _ _ => Or.inl rfl) ?_
  refine z_putP (pc2 := 78) rfl rfl rfl rfl (by first | exact z_fitO _ _ | exact z_fitA _ _) rfl (rfl : _ = ((1, 1, []) : zT)) True.intro ?_
  refine z_aload_n (pc2 := 79) rfl rfl rfl ?_
  refine z_iconst (pc2 := 80) rfl rfl ?_
  refine z_putI (pc2 := 83) rfl rfl rfl rfl rfl rfl (rfl : _ = ((1, 1, []) : zT)) (by omega) True.intro ?_
  refine z_ret rfl rfl ?_
  show zB _ _ _ _ _ _ [_, _] _ _
  refine z_putP (pc2 := 58) rfl rfl rfl rfl (by first | exact z_fitO _ _ | exact z_fitA _ _) rfl (rfl : _ = ((1, 8, []) : zT)) True.intro ?_
  refine z_aload_n (pc2 := 59) rfl rfl rfl ?_
  refine z_iconst (pc2 := 60) rfl rfl ?_
  refine z_putZ (pc2 := 63) rfl rfl rfl rfl rfl rfl (rfl : _ = ((1, 8, []) : zT)) (by omega) True.intro ?_
  refine z_aload_n (pc2 := 64) rfl rfl rfl ?_
  refine z_getP (pc2 := 67) rfl rfl rfl rfl (rfl : _ = ((1, 8, []) : zT)) ?_
  intro p3 p3e p3k; clear p3k; replace p3e : p3 = some 22 := p3e; subst p3e
  refine z_iconst (pc2 := 68) rfl rfl ?_
  refine z_callS (y2 := 269) (as := [_, _]) (rest := []) (pc2 := 71) rfl rfl rfl rfl ?_
  refine z_inl ?_
  refine z_lv (lv2 := [(0, _), (1, _)]) ⟨rfl, rfl, trivial⟩ ?_
  refine z_iconst (pc2 := 1) rfl rfl ?_
  refine z_istore_n (lv2 := [(2, _), (0, _), (1, _)]) (pc2 := 2) rfl rfl rfl rfl ?_
  refine z_aload_n (pc2 := 3) rfl rfl rfl ?_
  refine z_alen (pc2 := 4) rfl rfl (rfl : _ = ((2, 0, [12, 12]) : zT)) rfl (by omega) ?_
  refine z_istore_n (lv2 := [(3, _), (2, _), (0, _), (1, _)]) (pc2 := 5) rfl rfl rfl rfl ?_
  refine z_iload_n (pc2 := 6) rfl rfl rfl ?_
  refine z_iload_n (pc2 := 7) rfl rfl rfl ?_
  refine z_icmp_ge (t := 20) (pc2 := 10) rfl rfl rfl (by omega) (by omega) (fun c4 => by exfalso; omega) (fun c4 => ?_)
  refine z_aload_n (pc2 := 11) rfl rfl rfl ?_
  refine z_iload_n (pc2 := 12) rfl rfl rfl ?_
  refine z_iload_n (pc2 := 13) rfl rfl rfl ?_
  refine z_iast (pc2 := 14) rfl rfl (rfl : _ = ((2, 0, [12, 12]) : zT)) (by omega) (by omega) (by omega) (by omega) (by show (0 : Int) ≤ _ ∧ _ ≤ 9; omega) ?_
  refine z_iinc (lv2 := [(2, _), (3, _), (0, _), (1, _)]) (pc2 := 17) rfl rfl rfl rfl rfl ?_
  refine z_goto (pc2 := 5) rfl rfl ?_
  refine z_iload_n (pc2 := 6) rfl rfl rfl ?_
  refine z_iload_n (pc2 := 7) rfl rfl rfl ?_
  refine z_icmp_ge (t := 20) (pc2 := 10) rfl rfl rfl (by omega) (by omega) (fun c5 => by exfalso; omega) (fun c5 => ?_)
  refine z_aload_n (pc2 := 11) rfl rfl rfl ?_
  refine z_iload_n (pc2 := 12) rfl rfl rfl ?_
  refine z_iload_n (pc2 := 13) rfl rfl rfl ?_
  refine z_iast (pc2 := 14) rfl rfl (rfl : _ = ((2, 0, [12, 12]) : zT)) (by omega) (by omega) (by omega) (by omega) (by show (0 : Int) ≤ _ ∧ _ ≤ 9; omega) ?_
  refine z_iinc (lv2 := [(2, _), (3, _), (0, _), (1, _)]) (pc2 := 17) rfl rfl rfl rfl rfl ?_
  refine z_goto (pc2 := 5) rfl rfl ?_
  refine z_iload_n (pc2 := 6) rfl rfl rfl ?_
  refine z_iload_n (pc2 := 7) rfl rfl rfl ?_
  refine z_icmp_ge (t := 20) (pc2 := 10) rfl rfl rfl (by omega) (by omega) (fun c6 => by exfalso; omega) (fun c6 => ?_)
  refine z_aload_n (pc2 := 11) rfl rfl rfl ?_
  refine z_iload_n (pc2 := 12) rfl rfl rfl ?_
  refine z_iload_n (pc2 := 13) rfl rfl rfl ?_
  refine z_iast (pc2 := 14) rfl rfl (rfl : _ = ((2, 0, [12, 12]) : zT)) (by omega) (by omega) (by omega) (by omega) (by show (0 : Int) ≤ _ ∧ _ ≤ 9; omega) ?_
  refine z_iinc (lv2 := [(2, _), (3, _), (0, _), (1, _)]) (pc2 := 17) rfl rfl rfl rfl rfl ?_
  refine z_goto (pc2 := 5) rfl rfl ?_
  refine z_iload_n (pc2 := 6) rfl rfl rfl ?_
  refine z_iload_n (pc2 := 7) rfl rfl rfl ?_
  refine z_icmp_ge (t := 20) (pc2 := 10) rfl rfl rfl (by omega) (by omega) (fun c7 => by exfalso; omega) (fun c7 => ?_)
  refine z_aload_n (pc2 := 11) rfl rfl rfl ?_
  refine z_iload_n (pc2 := 12) rfl rfl rfl ?_
  refine z_iload_n (pc2 := 13) rfl rfl rfl ?_
  refine z_iast (pc2 := 14) rfl rfl (rfl : _ = ((2, 0, [12, 12]) : zT)) (by omega) (by omega) (by omega) (by omega) (by show (0 : Int) ≤ _ ∧ _ ≤ 9; omega) ?_
  refine z_iinc (lv2 := [(2, _), (3, _), (0, _), (1, _)]) (pc2 := 17) rfl rfl rfl rfl rfl ?_
  refine z_goto (pc2 := 5) rfl rfl ?_
  refine z_iload_n (pc2 := 6) rfl rfl rfl ?_
  refine z_iload_n (pc2 := 7) rfl rfl rfl ?_
  refine z_icmp_ge (t := 20) (pc2 := 10) rfl rfl rfl (by omega) (by omega) (fun c8 => by exfalso; omega) (fun c8 => ?_)
  refine z_aload_n (pc2 := 11) rfl rfl rfl ?_
  refine z_iload_n (pc2 := 12) rfl rfl rfl ?_
  refine z_iload_n (pc2 := 13) rfl rfl rfl ?_
  refine z_iast (pc2 := 14) rfl rfl (rfl : _ = ((2, 0, [12, 12]) : zT)) (by omega) (by omega) (by omega) (by omega) (by show (0 : Int) ≤ _ ∧ _ ≤ 9; omega) ?_
  refine z_iinc (lv2 := [(2, _), (3, _), (0, _), (1, _)]) (pc2 := 17) rfl rfl rfl rfl rfl ?_
  refine z_goto (pc2 := 5) rfl rfl ?_
  refine z_iload_n (pc2 := 6) rfl rfl rfl ?_
  refine z_iload_n (pc2 := 7) rfl rfl rfl ?_
  refine z_icmp_ge (t := 20) (pc2 := 10) rfl rfl rfl (by omega) (by omega) (fun c9 => by exfalso; omega) (fun c9 => ?_)
  refine z_aload_n (pc2 := 11) rfl rfl rfl ?_
  refine z_iload_n (pc2 := 12) rfl rfl rfl ?_
  refine z_iload_n (pc2 := 13) rfl rfl rfl ?_
  refine z_iast (pc2 := 14) rfl rfl (rfl : _ = ((2, 0, [12, 12]) : zT)) (by omega) (by omega) (by omega) (by omega) (by show (0 : Int) ≤ _ ∧ _ ≤ 9; omega) ?_
  refine z_iinc (lv2 := [(2, _), (3, _), (0, _), (1, _)]) (pc2 := 17) rfl rfl rfl rfl rfl ?_
  refine z_goto (pc2 := 5) rfl rfl ?_
  refine z_iload_n (pc2 := 6) rfl rfl rfl ?_
  refine z_iload_n (pc2 := 7) rfl rfl rfl ?_
  refine z_icmp_ge (t := 20) (pc2 := 10) rfl rfl rfl (by omega) (by omega) (fun c10 => by exfalso; omega) (fun c10 => ?_)
  refine z_aload_n (pc2 := 11) rfl rfl rfl ?_
  refine z_iload_n (pc2 := 12) rfl rfl rfl ?_
  refine z_iload_n (pc2 := 13) rfl rfl rfl ?_
  refine z_iast (pc2 := 14) rfl rfl (rfl : _ = ((2, 0, [12, 12]) : zT)) (by omega) (by omega) (by omega) (by omega) (by show (0 : Int) ≤ _ ∧ _ ≤ 9; omega) ?_
  refine z_iinc (lv2 := [(2, _), (3, _), (0, _), (1, _)]) (pc2 := 17) rfl rfl rfl rfl rfl ?_
  refine z_goto (pc2 := 5) rfl rfl ?_
  refine z_iload_n (pc2 := 6) rfl rfl rfl ?_
  refine z_iload_n (pc2 := 7) rfl rfl rfl ?_
  refine z_icmp_ge (t := 20) (pc2 := 10) rfl rfl rfl (by omega) (by omega) (fun c11 => by exfalso; omega) (fun c11 => ?_)
  refine z_aload_n (pc2 := 11) rfl rfl rfl ?_
  refine z_iload_n (pc2 := 12) rfl rfl rfl ?_
  refine z_iload_n (pc2 := 13) rfl rfl rfl ?_
  refine z_iast (pc2 := 14) rfl rfl (rfl : _ = ((2, 0, [12, 12]) : zT)) (by omega) (by omega) (by omega) (by omega) (by show (0 : Int) ≤ _ ∧ _ ≤ 9; omega) ?_
  refine z_iinc (lv2 := [(2, _), (3, _), (0, _), (1, _)]) (pc2 := 17) rfl rfl rfl rfl rfl ?_
  refine z_goto (pc2 := 5) rfl rfl ?_
  refine z_iload_n (pc2 := 6) rfl rfl rfl ?_
  refine z_iload_n (pc2 := 7) rfl rfl rfl ?_
  refine z_icmp_ge (t := 20) (pc2 := 10) rfl rfl rfl (by omega) (by omega) (fun c12 => by exfalso; omega) (fun c12 => ?_)
  refine z_aload_n (pc2 := 11) rfl rfl rfl ?_
  refine z_iload_n (pc2 := 12) rfl rfl rfl ?_
  refine z_iload_n (pc2 := 13) rfl rfl rfl ?_
  refine z_iast (pc2 := 14) rfl rfl (rfl : _ = ((2, 0, [12, 12]) : zT)) (by omega) (by omega) (by omega) (by omega) (by show (0 : Int) ≤ _ ∧ _ ≤ 9; omega) ?_
  refine z_iinc (lv2 := [(2, _), (3, _), (0, _), (1, _)]) (pc2 := 17) rfl rfl rfl rfl rfl ?_
  refine z_goto (pc2 := 5) rfl rfl ?_
  refine z_iload_n (pc2 := 6) rfl rfl rfl ?_
  refine z_iload_n (pc2 := 7) rfl rfl rfl ?_
  refine z_icmp_ge (t := 20) (pc2 := 10) rfl rfl rfl (by omega) (by omega) (fun c13 => by exfalso; omega) (fun c13 => ?_)
  refine z_aload_n (pc2 := 11) rfl rfl rfl ?_
  refine z_iload_n (pc2 := 12) rfl rfl rfl ?_
  refine z_iload_n (pc2 := 13) rfl rfl rfl ?_
  refine z_iast (pc2 := 14) rfl rfl (rfl : _ = ((2, 0, [12, 12]) : zT)) (by omega) (by omega) (by omega) (by omega) (by show (0 : Int) ≤ _ ∧ _ ≤ 9; omega) ?_
  refine z_iinc (lv2 := [(2, _), (3, _), (0, _), (1, _)]) (pc2 := 17) rfl rfl rfl rfl rfl ?_
  refine z_goto (pc2 := 5) rfl rfl ?_
  refine z_iload_n (pc2 := 6) rfl rfl rfl ?_
  refine z_iload_n (pc2 := 7) rfl rfl rfl ?_
  refine z_icmp_ge (t := 20) (pc2 := 10) rfl rfl rfl (by omega) (by omega) (fun c14 => by exfalso; omega) (fun c14 => ?_)
  refine z_aload_n (pc2 := 11) rfl rfl rfl ?_
  refine z_iload_n (pc2 := 12) rfl rfl rfl ?_
  refine z_iload_n (pc2 := 13) rfl rfl rfl ?_
  refine z_iast (pc2 := 14) rfl rfl (rfl : _ = ((2, 0, [12, 12]) : zT)) (by omega) (by omega) (by omega) (by omega) (by show (0 : Int) ≤ _ ∧ _ ≤ 9; omega) ?_
  refine z_iinc (lv2 := [(2, _), (3, _), (0, _), (1, _)]) (pc2 := 17) rfl rfl rfl rfl rfl ?_
  refine z_goto (pc2 := 5) rfl rfl ?_
  refine z_iload_n (pc2 := 6) rfl rfl rfl ?_
  refine z_iload_n (pc2 := 7) rfl rfl rfl ?_
  refine z_icmp_ge (t := 20) (pc2 := 10) rfl rfl rfl (by omega) (by omega) (fun c15 => by exfalso; omega) (fun c15 => ?_)
  refine z_aload_n (pc2 := 11) rfl rfl rfl ?_
  refine z_iload_n (pc2 := 12) rfl rfl rfl ?_
  refine z_iload_n (pc2 := 13) rfl rfl rfl ?_
  refine z_iast (pc2 := 14) rfl rfl (rfl : _ = ((2, 0, [12, 12]) : zT)) (by omega) (by omega) (by omega) (by omega) (by show (0 : Int) ≤ _ ∧ _ ≤ 9; omega) ?_
  refine z_iinc (lv2 := [(2, _), (3, _), (0, _), (1, _)]) (pc2 := 17) rfl rfl rfl rfl rfl ?_
  refine z_goto (pc2 := 5) rfl rfl ?_
  refine z_iload_n (pc2 := 6) rfl rfl rfl ?_
  refine z_iload_n (pc2 := 7) rfl rfl rfl ?_
  refine z_icmp_ge (t := 20) (pc2 := 10) rfl rfl rfl (by omega) (by omega) (fun c16 => ?_) (fun c16 => by exfalso; omega)
  refine z_ret rfl rfl ?_
  show zB _ _ _ _ _ _ [] _ _
  refine z_ret rfl rfl ?_
  show zB _ _ _ _ _ _ [_, _, _] _ _
  refine z_aast (pc2 := 96) rfl rfl (rfl : _ = ((2, 8, [2]) : zT)) rfl (by omega) (by omega) (by omega) (zHe (rfl : _ = ((1, 8, []) : zT)) (fun _ => rfl)) True.intro ?_
  refine z_iinc (lv2 := [(1, _), (0, _)]) (pc2 := 99) rfl rfl rfl rfl rfl ?_
  refine z_goto (pc2 := 78) rfl rfl ?_
  refine z_iload_n (pc2 := 79) rfl rfl rfl ?_
  refine z_iconst (pc2 := 80) rfl rfl ?_
  refine z_icmp_ge (t := 102) (pc2 := 83) rfl rfl rfl (by omega) (by omega) (fun c17 => by exfalso; omega) (fun c17 => ?_)
  refine z_aload_n (pc2 := 84) rfl rfl rfl ?_
  refine z_getP (pc2 := 87) rfl rfl rfl rfl (rfl : _ = ((1, 11, []) : zT)) ?_
  intro p18 p18e p18k; clear p18k; replace p18e : p18 = some 2 := p18e; subst p18e
  refine z_iload_n (pc2 := 88) rfl rfl rfl ?_
  refine z_newE (a := 37) (s2 := 1358) (c := 8) (s := 7) (pc2 := 91) rfl rfl rfl rfl rfl rfl (fun _ => True.intro) ?_
  refine z_dup (pc2 := 92) rfl rfl rfl ?_
  refine z_callP (y2 := 76) (as := []) (rest := [_, _, _]) (pc2 := 95) rfl rfl rfl rfl ?_
  refine z_inl ?_
  refine z_lv (lv2 := [(0, _)]) ⟨rfl, trivial⟩ ?_
  refine z_aload_n (pc2 := 1) rfl rfl rfl ?_
  refine z_obj (pc2 := 4) rfl rfl rfl rfl ?_
  refine z_aload_n (pc2 := 5) rfl rfl rfl ?_
  refine z_iconst (pc2 := 6) rfl rfl ?_
  refine z_newRE (a := 38) (s2 := 1362) (t := 5) (gs := [1]) (pc2 := 9) rfl rfl rfl rfl rfl rfl (by omega) (by omega) (fun _ _ => Or.inl rfl) ?_
  refine z_putP (pc2 := 12) rfl rfl rfl rfl (by first | exact z_fitO _ _ | exact z_fitA _ _) rfl (rfl : _ = ((1, 8, []) : zT)) True.intro ?_
  refine z_aload_n (pc2 := 13) rfl rfl rfl ?_
  refine z_iconst (pc2 := 14) rfl rfl ?_
  refine z_newIE (a := 39) (s2 := 1366) (gs := [0]) (pc2 := 16) rfl rfl rfl rfl (by omega) (by omega) (fun _ => True.intro) ?_
  refine z_putP (pc2 := 19) rfl rfl rfl rfl (by first | exact z_fitO _ _ | exact z_fitA _ _) rfl (rfl : _ = ((1, 8, []) : zT)) True.intro ?_
  refine z_aload_n (pc2 := 20) rfl rfl rfl ?_
  refine z_bipush (pc2 := 22) rfl rfl (by decide) ?_
  refine z_newRE (a := 40) (s2 := 1378) (t := 3) (gs := [1]) (pc2 := 25) rfl rfl rfl rfl rfl rfl (by omega) (by omega) (fun _ _ => Or.inl rfl) ?_
  refine z_putP (pc2 := 28) rfl rfl rfl rfl (by first | exact z_fitO _ _ | exact z_fitA _ _) rfl (rfl : _ = ((1, 8, []) : zT)) True.intro ?_
  refine z_aload_n (pc2 := 29) rfl rfl rfl ?_
  refine z_bipush (pc2 := 31) rfl rfl (by decide) ?_
  refine z_newIE (a := 41) (s2 := 1390) (gs := [12]) (pc2 := 33) rfl rfl rfl rfl (by omega) (by omega) (fun k => by show (0 : Int) ≤ 0 ∧ (0 : Int) ≤ 9; omega) ?_
  refine z_putP (pc2 := 36) rfl rfl rfl rfl (by first | exact z_fitO _ _ | exact z_fitA _ _) rfl (rfl : _ = ((1, 8, []) : zT)) True.intro ?_
  refine z_aload_n (pc2 := 37) rfl rfl rfl ?_
  refine z_newE (a := 42) (s2 := 1401) (c := 1) (s := 11) (pc2 := 40) rfl rfl rfl rfl rfl rfl (fun _ => True.intro) ?_
  refine z_dup (pc2 := 41) rfl rfl rfl ?_
  refine z_callP (y2 := 21) (as := []) (rest := [_, _]) (pc2 := 44) rfl rfl rfl rfl ?_
  refine z_inl ?_
  refine z_lv (lv2 := [(0, _)]) ⟨rfl, trivial⟩ ?_
  refine z_aload_n (pc2 := 1) rfl rfl rfl ?_
  refine z_obj (pc2 := 4) rfl rfl rfl rfl ?_
  refine z_aload_n (pc2 := 5) rfl rfl rfl ?_
  refine z_sipush (pc2 := 8) rfl rfl (by decide) ?_
  refine z_newIE (a := 43) (s2 := 1545) (gs := [0]) (pc2 := 10) rfl rfl rfl rfl (by omega) (by omega) (fun _ => True.intro) ?_
  refine z_putP (pc2 := 13) rfl rfl rfl rfl (by first | exact z_fitO _ _ | exact z_fitA _ _) rfl (rfl : _ = ((1, 1, []) : zT)) True.intro ?_
  refine z_aload_n (pc2 := 14) rfl rfl rfl ?_
  refine z_bipush (pc2 := 16) rfl rfl (by decide) ?_
  refine z_newRE (a := 44) (s2 := 1555) (t := 9) (gs := [1]) (pc2 := 19) rfl rfl rfl rfl rfl rfl (by omega) (by omega) (fun _ _ => Or.inl rfl) ?_
  refine z_putP (pc2 := 22) rfl rfl rfl rfl (by first | exact z_fitO _ _ | exact z_fitA _ _) rfl (rfl : _ = ((1, 1, []) : zT)) True.intro ?_
  refine z_aload_n (pc2 := 23) rfl rfl rfl ?_
  refine z_bipush (pc2 := 25) rfl rfl (by decide) ?_
  refine z_newRE (a := 45) (s2 := 1563) (t := 9) (gs := [1]) (pc2 := 28) rfl rfl rfl rfl rfl rfl (by omega) (by omega) (fun _ _ => Or.inl rfl) ?_
  refine z_putP (pc2 := 31) rfl rfl rfl rfl (by first | exact z_fitO _ _ | exact z_fitA _ _) rfl (rfl : _ = ((1, 1, []) : zT)) True.intro ?_
  refine z_aload_n (pc2 := 32) rfl rfl rfl ?_
  refine z_iconst (pc2 := 33) rfl rfl ?_
  refine z_putI (pc2 := 36) rfl rfl rfl rfl rfl rfl (rfl : _ = ((1, 1, []) : zT)) (by omega) True.intro ?_
  refine z_aload_n (pc2 := 37) rfl rfl rfl ?_
  refine z_iconst (pc2 := 38) rfl rfl ?_
  refine z_putI (pc2 := 41) rfl rfl rfl rfl rfl rfl (rfl : _ = ((1, 1, []) : zT)) (by omega) True.intro ?_
  refine z_aload_n (pc2 := 42) rfl rfl rfl ?_
  refine z_bipush (pc2 := 44) rfl rfl (by decide) ?_
  refine z_newRE (a := 46) (s2 := 1652) (t := 6) (gs := [1]) (pc2 := 47) rfl rfl rfl rfl rfl rfl (by omega) (by omega) (fun _ _ => Or.inl rfl) ?_
  refine z_putP (pc2 := 50) rfl rfl rfl rfl (by first | exact z_fitO _ _ | exact z_fitA _ _) rfl (rfl : _ = ((1, 1, []) : zT)) True.intro ?_
  refine z_aload_n (pc2 := 51) rfl rfl rfl ?_
  refine z_iconst (pc2 := 52) rfl rfl ?_
  refine z_putI (pc2 := 55) rfl rfl rfl rfl rfl rfl (rfl : _ = ((1, 1, []) : zT)) (by omega) True.intro ?_
  refine z_aload_n (pc2 := 56) rfl rfl rfl ?_
  refine z_bipush (pc2 := 58) rfl rfl (by decide) ?_
  refine z_newRE (a := 47) (s2 := 1741) (t := 7) (gs := [1]) (pc2 := 61) rfl rfl rfl rfl rfl rfl (by omega) (by omega) (fun _ _ => Or.inl rfl) ?_
  refine z_putP (pc2 := 64) rfl rfl rfl rfl (by first | exact z_fitO _ _ | exact z_fitA _ _) rfl (rfl : _ = ((1, 1, []) : zT)) True.intro ?_
  refine z_aload_n (pc2 := 65) rfl rfl rfl ?_
  refine z_iconst (pc2 := 66) rfl rfl ?_
  refine z_putI (pc2 := 69) rfl rfl rfl rfl rfl rfl (rfl : _ = ((1, 1, []) : zT)) (by omega) True.intro ?_
  refine z_aload_n (pc2 := 70) rfl rfl rfl ?_
  refine z_bipush (pc2 := 72) rfl rfl (by decide) ?_
  refine z_newRE (a := 48) (s2 := 1753) (t := 4) (gs := [1]) (pc2 := 75) rfl rfl rfl rfl rfl rfl (by omega) (by omega) (fun _ _ => Or.inl rfl) ?_
  refine z_putP (pc2 := 78) rfl rfl rfl rfl (by first | exact z_fitO _ _ | exact z_fitA _ _) rfl (rfl : _ = ((1, 1, []) : zT)) True.intro ?_
  refine z_aload_n (pc2 := 79) rfl rfl rfl ?_
  refine z_iconst (pc2 := 80) rfl rfl ?_
  refine z_putI (pc2 := 83) rfl rfl rfl rfl rfl rfl (rfl : _ = ((1, 1, []) : zT)) (by omega) True.intro ?_
  refine z_ret rfl rfl ?_
  show zB _ _ _ _ _ _ [_, _] _ _
  refine z_putP (pc2 := 47) rfl rfl rfl rfl (by first | exact z_fitO _ _ | exact z_fitA _ _) rfl (rfl : _ = ((1, 8, []) : zT)) True.intro ?_
  refine z_aload_n (pc2 := 48) rfl rfl rfl ?_
  refine z_newE (a := 49) (s2 := 1764) (c := 1) (s := 11) (pc2 := 51) rfl rfl rfl rfl rfl rfl (fun _ => True.intro) ?_
  refine z_dup (pc2 := 52) rfl rfl rfl ?_
  refine z_callP (y2 := 21) (as := []) (rest := [_, _]) (pc2 := 55) rfl rfl rfl rfl ?_
  refine z_inl ?_
  refine z_lv (lv2 := [(0, _)]) ⟨rfl, trivial⟩ ?_
  refine z_aload_n (pc2 := 1) rfl rfl rfl ?_
  refine z_obj (pc2 := 4) rfl rfl rfl rfl ?_
  refine z_aload_n (pc2 := 5) rfl rfl rfl ?_
  refine z_sipush (pc2 := 8) rfl rfl (by decide) ?_
  refine z_newIE (a := 50) (s2 := 1908) (gs := [0]) (pc2 := 10) rfl rfl rfl rfl (by omega) (by omega) (fun _ => True.intro) ?_
  refine z_putP (pc2 := 13) rfl rfl rfl rfl (by first | exact z_fitO _ _ | exact z_fitA _ _) rfl (rfl : _ = ((1, 1, []) : zT)) True.intro ?_
  refine z_aload_n (pc2 := 14) rfl rfl rfl ?_
  refine z_bipush (pc2 := 16) rfl rfl (by decide) ?_
  refine z_newRE (a := 51) (s2 := 1918) (t := 9) (gs := [1]) (pc2 := 19) rfl rfl rfl rfl rfl rfl (by omega) (by omega) (fun _ _ => Or.inl rfl) ?_
  refine z_putP (pc2 := 22) rfl rfl rfl rfl (by first | exact z_fitO _ _ | exact z_fitA _ _) rfl (rfl : _ = ((1, 1, []) : zT)) True.intro ?_
  refine z_aload_n (pc2 := 23) rfl rfl rfl ?_
  refine z_bipush (pc2 := 25) rfl rfl (by decide) ?_
  refine z_newRE (a := 52) (s2 := 1926) (t := 9) (gs := [1]) (pc2 := 28) rfl rfl rfl rfl rfl rfl (by omega) (by omega) (fun _ _ => Or.inl rfl) ?_
  refine z_putP (pc2 := 31) rfl rfl rfl rfl (by first | exact z_fitO _ _ | exact z_fitA _ _) rfl (rfl : _ = ((1, 1, []) : zT)) True.intro ?_
  refine z_aload_n (pc2 := 32) rfl rfl rfl ?_
  refine z_iconst (pc2 := 33) rfl rfl ?_
  refine z_putI (pc2 := 36) rfl rfl rfl rfl rfl rfl (rfl : _ = ((1, 1, []) : zT)) (by omega) True.intro ?_
  refine z_aload_n (pc2 := 37) rfl rfl rfl ?_
  refine z_iconst (pc2 := 38) rfl rfl ?_
  refine z_putI (pc2 := 41) rfl rfl rfl rfl rfl rfl (rfl : _ = ((1, 1, []) : zT)) (by omega) True.intro ?_
  refine z_aload_n (pc2 := 42) rfl rfl rfl ?_
  refine z_bipush (pc2 := 44) rfl rfl (by decide) ?_
  refine z_newRE (a := 53) (s2 := 2015) (t := 6) (gs := [1]) (pc2 := 47) rfl rfl rfl rfl rfl rfl (by omega) (by omega) (fun _ _ => Or.inl rfl) ?_
  refine z_putP (pc2 := 50) rfl rfl rfl rfl (by first | exact z_fitO _ _ | exact z_fitA _ _) rfl (rfl : _ = ((1, 1, []) : zT)) True.intro ?_
  refine z_aload_n (pc2 := 51) rfl rfl rfl ?_
  refine z_iconst (pc2 := 52) rfl rfl ?_
  refine z_putI (pc2 := 55) rfl rfl rfl rfl rfl rfl (rfl : _ = ((1, 1, []) : zT)) (by omega) True.intro ?_
  refine z_aload_n (pc2 := 56) rfl rfl rfl ?_
  refine z_bipush (pc2 := 58) rfl rfl (by decide) ?_
  refine z_newRE (a := 54) (s2 := 2104) (t := 7) (gs := [1]) (pc2 := 61) rfl rfl rfl rfl rfl rfl (by omega) (by omega) (fun _ _ => Or.inl rfl) ?_
  refine z_putP (pc2 := 64) rfl rfl rfl rfl (by first | exact z_fitO _ _ | exact z_fitA _ _) rfl (rfl : _ = ((1, 1, []) : zT)) True.intro ?_
  refine z_aload_n (pc2 := 65) rfl rfl rfl ?_
  refine z_iconst (pc2 := 66) rfl rfl ?_
  refine z_putI (pc2 := 69) rfl rfl rfl rfl rfl rfl (rfl : _ = ((1, 1, []) : zT)) (by omega) True.intro ?_
  refine z_aload_n (pc2 := 70) rfl rfl rfl ?_
  refine z_bipush (pc2 := 72) rfl rfl (by decide) ?_
  refine z_newRE (a := 55) (s2 := 2116) (t := 4) (gs := [1]) (pc2 := 75) rfl rfl rfl rfl rfl rfl (by omega) (by omega) (fun _ _ => Or.inl rfl) ?_
  refine z_putP (pc2 := 78) rfl rfl rfl rfl (by first | exact z_fitO _ _ | exact z_fitA _ _) rfl (rfl : _ = ((1, 1, []) : zT)) True.intro ?_
  refine z_aload_n (pc2 := 79) rfl rfl rfl ?_
  refine z_iconst (pc2 := 80) rfl rfl ?_
  refine z_putI (pc2 := 83) rfl rfl rfl rfl rfl rfl (rfl : _ = ((1, 1, []) : zT)) (by omega) True.intro ?_
  refine z_ret rfl rfl ?_
  show zB _ _ _ _ _ _ [_, _] _ _
  refine z_putP (pc2 := 58) rfl rfl rfl rfl (by first | exact z_fitO _ _ | exact z_fitA _ _) rfl (rfl : _ = ((1, 8, []) : zT)) True.intro ?_
  refine z_aload_n (pc2 := 59) rfl rfl rfl ?_
  refine z_iconst (pc2 := 60) rfl rfl ?_
  refine z_putZ (pc2 := 63) rfl rfl rfl rfl rfl rfl (rfl : _ = ((1, 8, []) : zT)) (by omega) True.intro ?_
  refine z_aload_n (pc2 := 64) rfl rfl rfl ?_
  refine z_getP (pc2 := 67) rfl rfl rfl rfl (rfl : _ = ((1, 8, []) : zT)) ?_
  intro p19 p19e p19k; clear p19k; replace p19e : p19 = some 41 := p19e; subst p19e
  refine z_iconst (pc2 := 68) rfl rfl ?_
  refine z_callS (y2 := 269) (as := [_, _]) (rest := []) (pc2 := 71) rfl rfl rfl rfl ?_
  refine z_inl ?_
  refine z_lv (lv2 := [(0, _), (1, _)]) ⟨rfl, rfl, trivial⟩ ?_
  refine z_iconst (pc2 := 1) rfl rfl ?_
  refine z_istore_n (lv2 := [(2, _), (0, _), (1, _)]) (pc2 := 2) rfl rfl rfl rfl ?_
  refine z_aload_n (pc2 := 3) rfl rfl rfl ?_
  refine z_alen (pc2 := 4) rfl rfl (rfl : _ = ((2, 0, [12, 12]) : zT)) rfl (by omega) ?_
  refine z_istore_n (lv2 := [(3, _), (2, _), (0, _), (1, _)]) (pc2 := 5) rfl rfl rfl rfl ?_
  refine z_iload_n (pc2 := 6) rfl rfl rfl ?_
  refine z_iload_n (pc2 := 7) rfl rfl rfl ?_
  refine z_icmp_ge (t := 20) (pc2 := 10) rfl rfl rfl (by omega) (by omega) (fun c20 => by exfalso; omega) (fun c20 => ?_)
  refine z_aload_n (pc2 := 11) rfl rfl rfl ?_
  refine z_iload_n (pc2 := 12) rfl rfl rfl ?_
  refine z_iload_n (pc2 := 13) rfl rfl rfl ?_
  refine z_iast (pc2 := 14) rfl rfl (rfl : _ = ((2, 0, [12, 12]) : zT)) (by omega) (by omega) (by omega) (by omega) (by show (0 : Int) ≤ _ ∧ _ ≤ 9; omega) ?_
  refine z_iinc (lv2 := [(2, _), (3, _), (0, _), (1, _)]) (pc2 := 17) rfl rfl rfl rfl rfl ?_
  refine z_goto (pc2 := 5) rfl rfl ?_
  refine z_iload_n (pc2 := 6) rfl rfl rfl ?_
  refine z_iload_n (pc2 := 7) rfl rfl rfl ?_
  refine z_icmp_ge (t := 20) (pc2 := 10) rfl rfl rfl (by omega) (by omega) (fun c21 => by exfalso; omega) (fun c21 => ?_)
  refine z_aload_n (pc2 := 11) rfl rfl rfl ?_
  refine z_iload_n (pc2 := 12) rfl rfl rfl ?_
  refine z_iload_n (pc2 := 13) rfl rfl rfl ?_
  refine z_iast (pc2 := 14) rfl rfl (rfl : _ = ((2, 0, [12, 12]) : zT)) (by omega) (by omega) (by omega) (by omega) (by show (0 : Int) ≤ _ ∧ _ ≤ 9; omega) ?_
  refine z_iinc (lv2 := [(2, _), (3, _), (0, _), (1, _)]) (pc2 := 17) rfl rfl rfl rfl rfl ?_
  refine z_goto (pc2 := 5) rfl rfl ?_
  refine z_iload_n (pc2 := 6) rfl rfl rfl ?_
  refine z_iload_n (pc2 := 7) rfl rfl rfl ?_
  refine z_icmp_ge (t := 20) (pc2 := 10) rfl rfl rfl (by omega) (by omega) (fun c22 => by exfalso; omega) (fun c22 => ?_)
  refine z_aload_n (pc2 := 11) rfl rfl rfl ?_
  refine z_iload_n (pc2 := 12) rfl rfl rfl ?_
  refine z_iload_n (pc2 := 13) rfl rfl rfl ?_
  refine z_iast (pc2 := 14) rfl rfl (rfl : _ = ((2, 0, [12, 12]) : zT)) (by omega) (by omega) (by omega) (by omega) (by show (0 : Int) ≤ _ ∧ _ ≤ 9; omega) ?_
  refine z_iinc (lv2 := [(2, _), (3, _), (0, _), (1, _)]) (pc2 := 17) rfl rfl rfl rfl rfl ?_
  refine z_goto (pc2 := 5) rfl rfl ?_
  refine z_iload_n (pc2 := 6) rfl rfl rfl ?_
  refine z_iload_n (pc2 := 7) rfl rfl rfl ?_
  refine z_icmp_ge (t := 20) (pc2 := 10) rfl rfl rfl (by omega) (by omega) (fun c23 => by exfalso; omega) (fun c23 => ?_)
  refine z_aload_n (pc2 := 11) rfl rfl rfl ?_
  refine z_iload_n (pc2 := 12) rfl rfl rfl ?_
  refine z_iload_n (pc2 := 13) rfl rfl rfl ?_
  refine z_iast (pc2 := 14) rfl rfl (rfl : _ = ((2, 0, [12, 12]) : zT)) (by omega) (by omega) (by omega) (by omega) (by show (0 : Int) ≤ _ ∧ _ ≤ 9; omega) ?_
  refine z_iinc (lv2 := [(2, _), (3, _), (0, _), (1, _)]) (pc2 := 17) rfl rfl rfl rfl rfl ?_
  refine z_goto (pc2 := 5) rfl rfl ?_
  refine z_iload_n (pc2 := 6) rfl rfl rfl ?_
  refine z_iload_n (pc2 := 7) rfl rfl rfl ?_
  refine z_icmp_ge (t := 20) (pc2 := 10) rfl rfl rfl (by omega) (by omega) (fun c24 => by exfalso; omega) (fun c24 => ?_)
  refine z_aload_n (pc2 := 11) rfl rfl rfl ?_
  refine z_iload_n (pc2 := 12) rfl rfl rfl ?_
  refine z_iload_n (pc2 := 13) rfl rfl rfl ?_
  refine z_iast (pc2 := 14) rfl rfl (rfl : _ = ((2, 0, [12, 12]) : zT)) (by omega) (by omega) (by omega) (by omega) (by show (0 : Int) ≤ _ ∧ _ ≤ 9; omega) ?_
  refine z_iinc (lv2 := [(2, _), (3, _), (0, _), (1, _)]) (pc2 := 17) rfl rfl rfl rfl rfl ?_
  refine z_goto (pc2 := 5) rfl rfl ?_
  refine z_iload_n (pc2 := 6) rfl rfl rfl ?_
  refine z_iload_n (pc2 := 7) rfl rfl rfl ?_
  refine z_icmp_ge (t := 20) (pc2 := 10) rfl rfl rfl (by omega) (by omega) (fun c25 => by exfalso; omega) (fun c25 => ?_)
  refine z_aload_n (pc2 := 11) rfl rfl rfl ?_
  refine z_iload_n (pc2 := 12) rfl rfl rfl ?_
  refine z_iload_n (pc2 := 13) rfl rfl rfl ?_
  refine z_iast (pc2 := 14) rfl rfl (rfl : _ = ((2, 0, [12, 12]) : zT)) (by omega) (by omega) (by omega) (by omega) (by show (0 : Int) ≤ _ ∧ _ ≤ 9; omega) ?_
  refine z_iinc (lv2 := [(2, _), (3, _), (0, _), (1, _)]) (pc2 := 17) rfl rfl rfl rfl rfl ?_
  refine z_goto (pc2 := 5) rfl rfl ?_
  refine z_iload_n (pc2 := 6) rfl rfl rfl ?_
  refine z_iload_n (pc2 := 7) rfl rfl rfl ?_
  refine z_icmp_ge (t := 20) (pc2 := 10) rfl rfl rfl (by omega) (by omega) (fun c26 => by exfalso; omega) (fun c26 => ?_)
  refine z_aload_n (pc2 := 11) rfl rfl rfl ?_
  refine z_iload_n (pc2 := 12) rfl rfl rfl ?_
  refine z_iload_n (pc2 := 13) rfl rfl rfl ?_
  refine z_iast (pc2 := 14) rfl rfl (rfl : _ = ((2, 0, [12, 12]) : zT)) (by omega) (by omega) (by omega) (by omega) (by show (0 : Int) ≤ _ ∧ _ ≤ 9; omega) ?_
  refine z_iinc (lv2 := [(2, _), (3, _), (0, _), (1, _)]) (pc2 := 17) rfl rfl rfl rfl rfl ?_
  refine z_goto (pc2 := 5) rfl rfl ?_
  refine z_iload_n (pc2 := 6) rfl rfl rfl ?_
  refine z_iload_n (pc2 := 7) rfl rfl rfl ?_
  refine z_icmp_ge (t := 20) (pc2 := 10) rfl rfl rfl (by omega) (by omega) (fun c27 => by exfalso; omega) (fun c27 => ?_)
  refine z_aload_n (pc2 := 11) rfl rfl rfl ?_
  refine z_iload_n (pc2 := 12) rfl rfl rfl ?_
  refine z_iload_n (pc2 := 13) rfl rfl rfl ?_
  refine z_iast (pc2 := 14) rfl rfl (rfl : _ = ((2, 0, [12, 12]) : zT)) (by omega) (by omega) (by omega) (by omega) (by show (0 : Int) ≤ _ ∧ _ ≤ 9; omega) ?_
  refine z_iinc (lv2 := [(2, _), (3, _), (0, _), (1, _)]) (pc2 := 17) rfl rfl rfl rfl rfl ?_
  refine z_goto (pc2 := 5) rfl rfl ?_
  refine z_iload_n (pc2 := 6) rfl rfl rfl ?_
  refine z_iload_n (pc2 := 7) rfl rfl rfl ?_
  refine z_icmp_ge (t := 20) (pc2 := 10) rfl rfl rfl (by omega) (by omega) (fun c28 => by exfalso; omega) (fun c28 => ?_)
  refine z_aload_n (pc2 := 11) rfl rfl rfl ?_
  refine z_iload_n (pc2 := 12) rfl rfl rfl ?_
  refine z_iload_n (pc2 := 13) rfl rfl rfl ?_
  refine z_iast (pc2 := 14) rfl rfl (rfl : _ = ((2, 0, [12, 12]) : zT)) (by omega) (by omega) (by omega) (by omega) (by show (0 : Int) ≤ _ ∧ _ ≤ 9; omega) ?_
  refine z_iinc (lv2 := [(2, _), (3, _), (0, _), (1, _)]) (pc2 := 17) rfl rfl rfl rfl rfl ?_
  refine z_goto (pc2 := 5) rfl rfl ?_
  refine z_iload_n (pc2 := 6) rfl rfl rfl ?_
  refine z_iload_n (pc2 := 7) rfl rfl rfl ?_
  refine z_icmp_ge (t := 20) (pc2 := 10) rfl rfl rfl (by omega) (by omega) (fun c29 => by exfalso; omega) (fun c29 => ?_)
  refine z_aload_n (pc2 := 11) rfl rfl rfl ?_
  refine z_iload_n (pc2 := 12) rfl rfl rfl ?_
  refine z_iload_n (pc2 := 13) rfl rfl rfl ?_
  refine z_iast (pc2 := 14) rfl rfl (rfl : _ = ((2, 0, [12, 12]) : zT)) (by omega) (by omega) (by omega) (by omega) (by show (0 : Int) ≤ _ ∧ _ ≤ 9; omega) ?_
  refine z_iinc (lv2 := [(2, _), (3, _), (0, _), (1, _)]) (pc2 := 17) rfl rfl rfl rfl rfl ?_
  refine z_goto (pc2 := 5) rfl rfl ?_
  refine z_iload_n (pc2 := 6) rfl rfl rfl ?_
  refine z_iload_n (pc2 := 7) rfl rfl rfl ?_
  refine z_icmp_ge (t := 20) (pc2 := 10) rfl rfl rfl (by omega) (by omega) (fun c30 => by exfalso; omega) (fun c30 => ?_)
  refine z_aload_n (pc2 := 11) rfl rfl rfl ?_
  refine z_iload_n (pc2 := 12) rfl rfl rfl ?_
  refine z_iload_n (pc2 := 13) rfl rfl rfl ?_
  refine z_iast (pc2 := 14) rfl rfl (rfl : _ = ((2, 0, [12, 12]) : zT)) (by omega) (by omega) (by omega) (by omega) (by show (0 : Int) ≤ _ ∧ _ ≤ 9; omega) ?_
  refine z_iinc (lv2 := [(2, _), (3, _), (0, _), (1, _)]) (pc2 := 17) rfl rfl rfl rfl rfl ?_
  refine z_goto (pc2 := 5) rfl rfl ?_
  refine z_iload_n (pc2 := 6) rfl rfl rfl ?_
  refine z_iload_n (pc2 := 7) rfl rfl rfl ?_
  refine z_icmp_ge (t := 20) (pc2 := 10) rfl rfl rfl (by omega) (by omega) (fun c31 => by exfalso; omega) (fun c31 => ?_)
  refine z_aload_n (pc2 := 11) rfl rfl rfl ?_
  refine z_iload_n (pc2 := 12) rfl rfl rfl ?_
  refine z_iload_n (pc2 := 13) rfl rfl rfl ?_
  refine z_iast (pc2 := 14) rfl rfl (rfl : _ = ((2, 0, [12, 12]) : zT)) (by omega) (by omega) (by omega) (by omega) (by show (0 : Int) ≤ _ ∧ _ ≤ 9; omega) ?_
  refine z_iinc (lv2 := [(2, _), (3, _), (0, _), (1, _)]) (pc2 := 17) rfl rfl rfl rfl rfl ?_
  refine z_goto (pc2 := 5) rfl rfl ?_
  refine z_iload_n (pc2 := 6) rfl rfl rfl ?_
  refine z_iload_n (pc2 := 7) rfl rfl rfl ?_
  refine z_icmp_ge (t := 20) (pc2 := 10) rfl rfl rfl (by omega) (by omega) (fun c32 => ?_) (fun c32 => by exfalso; omega)
  refine z_ret rfl rfl ?_
  show zB _ _ _ _ _ _ [] _ _
  refine z_ret rfl rfl ?_
  show zB _ _ _ _ _ _ [_, _, _] _ _
  refine z_aast (pc2 := 96) rfl rfl (rfl : _ = ((2, 8, [2]) : zT)) rfl (by omega) (by omega) (by omega) (zHe (rfl : _ = ((1, 8, []) : zT)) (fun _ => rfl)) True.intro ?_
  refine z_iinc (lv2 := [(1, _), (0, _)]) (pc2 := 99) rfl rfl rfl rfl rfl ?_
  refine z_goto (pc2 := 78) rfl rfl ?_
  refine z_iload_n (pc2 := 79) rfl rfl rfl ?_
  refine z_iconst (pc2 := 80) rfl rfl ?_
  refine z_icmp_ge (t := 102) (pc2 := 83) rfl rfl rfl (by omega) (by omega) (fun c33 => ?_) (fun c33 => by exfalso; omega)
  refine z_aload_n (pc2 := 103) rfl rfl rfl ?_
  refine z_aload_n (pc2 := 104) rfl rfl rfl ?_
  refine z_getP (pc2 := 107) rfl rfl rfl rfl (rfl : _ = ((1, 11, []) : zT)) ?_
  intro p34 p34e p34k; clear p34k; replace p34e : p34 = some 2 := p34e; subst p34e
  refine z_iconst (pc2 := 108) rfl rfl ?_
  refine z_aald (pc2 := 109) rfl rfl (rfl : _ = ((2, 8, [2]) : zT)) rfl (by omega) (by omega) (by omega) ?_
  intro p35 p35e p35k; clear p35k; replace p35e : p35 = some 18 := p35e; subst p35e
  refine z_putP (pc2 := 112) rfl rfl rfl rfl (by first | exact z_fitO _ _ | exact z_fitA _ _) rfl (rfl : _ = ((1, 11, []) : zT)) True.intro ?_
  refine z_ret rfl rfl ?_
  show zB _ _ _ _ _ _ [_] _ _
  refine z_astore_n (lv2 := [(1, _), (0, _)]) (pc2 := 8) rfl rfl rfl rfl ?_
  refine zB_rtOE (g := 1) (gs := []) 3 (rfl : _ = ((1, 10, []) : zT)) (zkTr_I rfl) (zkTr_P rfl) ?_
  refine zB_rtOE (g := 1) (gs := []) 5 (rfl : _ = ((1, 7, []) : zT)) (zkRd_I rfl) (zkRd_P rfl rfl rfl rfl rfl) ?_
  refine zB_rtOE (g := 1) (gs := []) 9 (rfl : _ = ((1, 0, []) : zT)) (zkCo_I rfl rfl rfl rfl rfl) (zkCo_P rfl rfl rfl rfl rfl rfl) ?_
  refine zB_rtOE (g := 1) (gs := []) 14 (rfl : _ = ((1, 6, []) : zT)) (zkPa_I rfl rfl) (zkPa_P rfl rfl rfl rfl rfl) ?_
  refine zB_rtOE (g := 23) (gs := []) 23 (rfl : _ = ((1, 1, []) : zT)) (zkFl_I rfl rfl rfl rfl) (zkFl_P rfl rfl rfl rfl rfl rfl) ?_
  refine zB_rtOE (g := 30) (gs := []) 30 (rfl : _ = ((1, 1, []) : zT)) (zkFl_I rfl rfl rfl rfl) (zkFl_P rfl rfl rfl rfl rfl rfl) ?_
  refine zB_rtOE (g := 42) (gs := []) 42 (rfl : _ = ((1, 1, []) : zT)) (zkFl_I rfl rfl rfl rfl) (zkFl_P rfl rfl rfl rfl rfl rfl) ?_
  refine zB_rtOE (g := 49) (gs := []) 49 (rfl : _ = ((1, 1, []) : zT)) (zkFl_I rfl rfl rfl rfl) (zkFl_P rfl rfl rfl rfl rfl rfl) ?_
  refine zB_rtOE (g := 18) (gs := []) 18 (rfl : _ = ((1, 8, []) : zT)) (zkRm_I) (zkRm_P rfl rfl rfl rfl rfl rfl) ?_
  refine zB_rtOE (g := 37) (gs := []) 37 (rfl : _ = ((1, 8, []) : zT)) (zkRm_I) (zkRm_P rfl rfl rfl rfl rfl rfl) ?_
  refine zB_rtOE (g := 1) (gs := []) 1 (rfl : _ = ((1, 11, []) : zT)) (zkTy_I rfl) (zkTy_P rfl rfl rfl rfl rfl rfl) ?_
  refine zB_rtRE (g := 3) (gs := []) 2 (rfl : _ = ((2, 8, [2]) : zT)) (fun _ => True.intro) (fun k => ⟨fun h => by subst h; rfl, fun h => by subst h; rfl⟩) ?_
  refine hE _ _ _ _ ?_ ?_ ?_ ?_ ?_ ?_ ?_ ?_ ?_ ?_ ?_ ?_
  rotate_left
  · rfl
  · rfl
  · rfl
  · rfl
  · rfl
  · rfl
  · exact ⟨rfl, rfl, rfl⟩
  · exact ⟨rfl, rfl, rfl⟩
  · exact ⟨rfl, rfl, rfl⟩
  · exact ⟨rfl, rfl, rfl⟩
  rotate_left
  · refine zAll_m (m := 1) (n := 55) rfl ?_
    exact (zAll_s (zAll_s (zAll_s (zAll_s (zAll_s (zAll_s (zAll_s (zAll_s (zAll_s (zAll_s (zAll_s (zAll_s (zAll_s (zAll_s (zAll_s (zAll_s (zAll_s (zAll_s (zAll_s (zAll_s (zAll_s (zAll_s (zAll_s (zAll_s (zAll_s (zAll_s (zAll_s (zAll_s (zAll_s (zAll_s (zAll_s (zAll_s (zAll_s (zAll_s (zAll_s (zAll_s (zAll_s (zAll_s (zAll_s (zAll_s (zAll_s (zAll_s (zAll_s (zAll_s (zAll_s (zAll_s (zAll_s (zAll_s (zAll_s (zAll_s (zAll_s (zAll_s (zAll_s (zAll_s (zAll_s zAll_0 rfl) rfl) rfl) rfl) rfl) rfl) rfl) rfl) rfl) rfl) rfl) rfl) rfl) rfl) rfl) rfl) rfl) rfl) rfl) rfl) rfl) rfl) rfl) rfl) rfl) rfl) rfl) rfl) rfl) rfl) rfl) rfl) rfl) rfl) rfl) rfl) rfl) rfl) rfl) rfl) rfl) rfl) rfl) rfl) rfl) rfl) rfl) rfl) rfl) rfl) rfl) rfl) rfl) rfl) rfl)
  · refine zAll_ok (n := 12) ?_
    exact (zAll_s (zAll_s (zAll_s (zAll_s (zAll_s (zAll_s (zAll_s (zAll_s (zAll_s (zAll_s (zAll_s (zAll_s zAll_0 ⟨rfl, rfl⟩) ⟨rfl, rfl⟩) ⟨rfl, rfl⟩) ⟨rfl, rfl⟩) ⟨rfl, rfl⟩) ⟨rfl, rfl⟩) ⟨rfl, rfl⟩) ⟨rfl, rfl⟩) ⟨rfl, rfl⟩) ⟨rfl, rfl⟩) ⟨rfl, rfl⟩) ⟨rfl, rfl⟩)
