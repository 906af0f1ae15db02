/-! the reference: printing -/
set_option maxHeartbeats 8000000 in
theorem l_print2 {L : Nat} {xs : Nat → Int32} {n sl : Nat} {T : Nat → zT} {I : Nat → Nat → Int} {P : Nat → Nat → Option Nat} {K : List zV → zH → Prop} {k b l2 a q : Int} (hT : ∀ a, 56 ≤ a → a ≤ 90 → T a = zFix a) (hk : 0 ≤ k ∧ k ≤ 11) (hb : 0 ≤ b ∧ b ≤ 660) (hl2 : 0 ≤ l2 ∧ l2 ≤ 59) (ha : 0 ≤ a ∧ a ≤ 112200) (hq : 0 ≤ q ∧ q ≤ 1) (hat : a = 56100 * q + 8540 + 66 * (b + l2)) (hE : ∀ (I2 G2 : Nat → Nat → Int) (d : Int), zFr I I2 → I2 56 7 ≤ 210 * (l2 + 1) → zB zMd L xs 261 38 [(0, .inr (.inl (some 56))), (2, .inl k), (3, .inr (.inr d)), (5, .inl b), (6, .inl (l2 + 1))] [] (n, sl, T, I2, P, G2) K) (hK : True) (m : Nat) : ∀ (I2 : Nat → Nat → Int) (G2 : Nat → Nat → Int), ∀ (d i : Int), 0 ≤ i ∧ i ≤ 42 → zFr I I2 → I2 56 7 ≤ 210 * l2 + 5 * i → (42 - i).toNat < m → zB zMd L xs 261 76 [(0, .inr (.inl (some 56))), (2, .inl k), (3, .inr (.inr d)), (5, .inl b), (6, .inl l2), (7, .inl a), (8, .inl i)] [] (n, sl, T, I2, P, G2) K := by
  have t56 : T 56 = (1, 12, [1]) := hT 56 (by decide) (by decide)
  have t57 : T 57 = (2, 0, [112200, 1]) := hT 57 (by decide) (by decide)
  induction m with
  | zero => intro I2 G2 d i hi hI2 htr hm; omega
  | succ m ih =>
    intro I2 G2 d i hi hI2 htr hm
    refine z_iload (pc2 := 78) rfl rfl rfl ?_
    refine z_aload_n (pc2 := 79) rfl rfl rfl ?_
    refine z_getP (pc2 := 82) rfl rfl rfl rfl t56 ?_
    intro p1 p1e p1k; replace p1k : p1 = some 57 := p1k; clear p1e; subst p1k
    refine z_iload (pc2 := 84) rfl rfl rfl ?_
    refine z_iconst (pc2 := 85) rfl rfl ?_
    refine z_iadd (pc2 := 86) rfl rfl ?_
    refine z_iald (pc2 := 87) rfl rfl t57 (by omega) (by omega) (by decide) ?_
    intro v2 e2 r2 k2
    clear e2
    replace k2 := ok_lsorts k2 (by omega); clear r2
    refine z_icmp_ge (t := 143) (pc2 := 90) rfl rfl rfl (by omega) (by omega) (fun c3 => ?_) (fun c3 => ?_)
    ·
      refine z_iinc (lv2 := [(6, _), (0, _), (2, _), (3, _), (5, _), (7, _), (8, _)]) (pc2 := 146) rfl rfl rfl rfl rfl ?_
      refine z_goto (pc2 := 38) rfl rfl ?_
      refine z_lv (lv2 := [(0, _), (2, _), (3, _), (5, _), (6, _)]) ⟨rfl, rfl, rfl, rfl, rfl, trivial⟩ ?_
      exact hE _ _ _ hI2 (by omega)
    ·
      refine z_aload_n (pc2 := 91) rfl rfl rfl ?_
      refine z_getP (pc2 := 94) rfl rfl rfl rfl t56 ?_
      intro p4 p4e p4k; replace p4k : p4 = some 57 := p4k; clear p4e; subst p4k
      refine z_iload (pc2 := 96) rfl rfl rfl ?_
      refine z_bipush (pc2 := 98) rfl rfl (by decide) ?_
      refine z_iadd (pc2 := 99) rfl rfl ?_
      refine z_iload (pc2 := 101) rfl rfl rfl ?_
      refine z_iadd (pc2 := 102) rfl rfl ?_
      refine z_iald (pc2 := 103) rfl rfl t57 (by omega) (by omega) (by decide) ?_
      intro v5 e5 r5 k5
      clear e5
      replace k5 := ok_lsort k5 (by omega)
      refine z_istore (lv2 := [(9, _), (0, _), (2, _), (3, _), (5, _), (6, _), (7, _), (8, _)]) (pc2 := 105) rfl rfl rfl rfl ?_
      refine z_ldc2 (31) (pc2 := 108) rfl rfl rfl ?_
      refine z_lload_n (pc2 := 109) rfl rfl rfl ?_
      refine z_lmul (pc2 := 110) rfl rfl ?_
      refine z_iload (pc2 := 112) rfl rfl rfl ?_
      refine z_callS (y2 := 172) (as := [_]) (rest := [_]) (pc2 := 115) rfl rfl rfl rfl ?_
      refine z_inl ?_
      refine z_lv (lv2 := [(0, _)]) ⟨rfl, trivial⟩ ?_
      refine z_iload_n (pc2 := 1) rfl rfl rfl ?_
      refine z_bipush (pc2 := 3) rfl rfl (by decide) ?_
      refine z_and_7 (pc2 := 4) rfl rfl ?_
      refine z_iconst (pc2 := 5) rfl rfl ?_
      refine z_isub (pc2 := 6) rfl rfl ?_
      refine z_iret rfl rfl ?_
      show zB _ _ _ _ _ _ [_, _] _ _
      refine z_iconst (pc2 := 116) rfl rfl ?_
      refine z_icmp_ne (t := 128) (pc2 := 119) rfl rfl rfl (by omega) (by omega) (fun c8 => ?_) (fun c8 => ?_)
      ·
        refine z_aload_n (pc2 := 129) rfl rfl rfl ?_
        refine z_iload (pc2 := 131) rfl rfl rfl ?_
        refine z_callV (y2 := 195) (as := [_]) (rest := [_]) (pc2 := 134) rfl rfl rfl rfl t56 rfl ?_
        refine m_ink hT (by omega) (by assumption) (by first | omega | (simp [zU] <;> omega)) (fun w9 Iw9 Gw9 w9h fw9 => ?_)
        try simp [zU] at w9h
        replace fw9 := zFr_tr (I := I) (by repeat (first | exact zFr_rf _ | assumption | refine zFr_a ?_ (by decide) | refine zFr_f ?_ (by decide) | refine zFr_n ?_ (by omega) | refine zFr_h ?_ (by omega) | refine zFr_tok ?_ (by omega))) fw9
        show zB _ _ _ _ _ _ [_, _] _ _
        refine z_i2l_any (pc2 := 135) rfl rfl (fun g10 => ?_)
        refine z_ladd (pc2 := 136) rfl rfl ?_
        refine z_lstore_n (lv2 := [(3, _), (9, _), (0, _), (2, _), (5, _), (6, _), (7, _), (8, _)]) (pc2 := 137) rfl rfl rfl rfl ?_
        refine z_iinc (lv2 := [(8, _), (3, _), (9, _), (0, _), (2, _), (5, _), (6, _), (7, _)]) (pc2 := 140) rfl rfl rfl rfl rfl ?_
        refine z_goto (pc2 := 76) rfl rfl ?_
        refine z_lv (lv2 := [(0, _), (2, _), (3, _), (5, _), (6, _), (7, _), (8, _)]) ⟨rfl, rfl, rfl, rfl, rfl, rfl, rfl, trivial⟩ ?_
        exact ih _ _ _ _ (by omega) (by repeat (first | exact zFr_rf _ | assumption | refine zFr_a ?_ (by decide) | refine zFr_f ?_ (by decide) | refine zFr_n ?_ (by omega) | refine zFr_h ?_ (by omega) | refine zFr_tok ?_ (by omega))) (by omega) (by omega)
      ·
        refine z_aload_n (pc2 := 120) rfl rfl rfl ?_
        refine z_iload (pc2 := 122) rfl rfl rfl ?_
        refine z_callV (y2 := 192) (as := [_]) (rest := [_]) (pc2 := 125) rfl rfl rfl rfl t56 rfl ?_
        refine m_wide hT (by omega) (by assumption) (by first | omega | (simp [zU] <;> omega)) (fun w11 Iw11 Gw11 w11h fw11 => ?_)
        try simp [zU] at w11h
        replace fw11 := zFr_tr (I := I) (by repeat (first | exact zFr_rf _ | assumption | refine zFr_a ?_ (by decide) | refine zFr_f ?_ (by decide) | refine zFr_n ?_ (by omega) | refine zFr_h ?_ (by omega) | refine zFr_tok ?_ (by omega))) fw11
        show zB _ _ _ _ _ _ [_, _] _ _
        refine z_goto (pc2 := 134) rfl rfl ?_
        refine z_i2l_any (pc2 := 135) rfl rfl (fun g12 => ?_)
        refine z_ladd (pc2 := 136) rfl rfl ?_
        refine z_lstore_n (lv2 := [(3, _), (9, _), (0, _), (2, _), (5, _), (6, _), (7, _), (8, _)]) (pc2 := 137) rfl rfl rfl rfl ?_
        refine z_iinc (lv2 := [(8, _), (3, _), (9, _), (0, _), (2, _), (5, _), (6, _), (7, _)]) (pc2 := 140) rfl rfl rfl rfl rfl ?_
        refine z_goto (pc2 := 76) rfl rfl ?_
        refine z_lv (lv2 := [(0, _), (2, _), (3, _), (5, _), (6, _), (7, _), (8, _)]) ⟨rfl, rfl, rfl, rfl, rfl, rfl, rfl, trivial⟩ ?_
        exact ih _ _ _ _ (by omega) (by repeat (first | exact zFr_rf _ | assumption | refine zFr_a ?_ (by decide) | refine zFr_f ?_ (by decide) | refine zFr_n ?_ (by omega) | refine zFr_h ?_ (by omega) | refine zFr_tok ?_ (by omega))) (by omega) (by omega)
set_option maxHeartbeats 8000000 in
theorem l_print1 {L : Nat} {xs : Nat → Int32} {n sl : Nat} {T : Nat → zT} {I : Nat → Nat → Int} {P : Nat → Nat → Option Nat} {K : List zV → zH → Prop} {k b : Int} (hT : ∀ a, 56 ≤ a → a ≤ 90 → T a = zFix a) (hk : 0 ≤ k ∧ k ≤ 11) (hb : 0 ≤ b ∧ b ≤ 660) (hK : ∀ e I2 G2, zFr I I2 → K [.inr (.inr e)] (n, sl, T, I2, P, G2)) (m : Nat) : ∀ (I2 : Nat → Nat → Int) (G2 : Nat → Nat → Int), ∀ (d l2 : Int), 0 ≤ l2 ∧ l2 ≤ 60 → zFr I I2 → I2 56 7 ≤ 210 * l2 → (60 - l2).toNat < m → zB zMd L xs 261 38 [(0, .inr (.inl (some 56))), (2, .inl k), (3, .inr (.inr d)), (5, .inl b), (6, .inl l2)] [] (n, sl, T, I2, P, G2) K := by
  have t56 : T 56 = (1, 12, [1]) := hT 56 (by decide) (by decide)
  have t57 : T 57 = (2, 0, [112200, 1]) := hT 57 (by decide) (by decide)
  induction m with
  | zero => intro I2 G2 d l2 hl2 hI2 htr hm; omega
  | succ m ih =>
    intro I2 G2 d l2 hl2 hI2 htr hm
    refine z_iload (pc2 := 40) rfl rfl rfl ?_
    refine z_aload_n (pc2 := 41) rfl rfl rfl ?_
    refine z_getP (pc2 := 44) rfl rfl rfl rfl t56 ?_
    intro p1 p1e p1k; replace p1k : p1 = some 57 := p1k; clear p1e; subst p1k
    refine z_aload_n (pc2 := 45) rfl rfl rfl ?_
    refine z_callV (y2 := 162) (as := []) (rest := [_, _]) (pc2 := 48) rfl rfl rfl rfl t56 rfl ?_
    refine z_inl ?_
    refine z_lv (lv2 := [(0, _)]) ⟨rfl, trivial⟩ ?_
    refine z_ldc (56100) (pc2 := 2) rfl rfl rfl ?_
    refine z_aload_n (pc2 := 3) rfl rfl rfl ?_
    refine z_getI (pc2 := 6) 0 rfl rfl rfl rfl rfl t56 ?_
    intro v2 e2 r2 k2
    clear e2
    replace k2 : (0 : Int) ≤ v2 ∧ v2 ≤ 1 := k2; clear r2
    refine z_imul (pc2 := 7) rfl rfl ?_
    refine z_iret rfl rfl ?_
    show zB _ _ _ _ _ _ [_, _, _] _ _
    refine z_sipush (pc2 := 51) rfl rfl (by decide) ?_
    refine z_iadd (pc2 := 52) rfl rfl ?_
    refine z_iconst (pc2 := 53) rfl rfl ?_
    refine z_iload_n (pc2 := 54) rfl rfl rfl ?_
    refine z_imul (pc2 := 55) rfl rfl ?_
    refine z_iadd (pc2 := 56) rfl rfl ?_
    refine z_iconst (pc2 := 57) rfl rfl ?_
    refine z_iadd (pc2 := 58) rfl rfl ?_
    refine z_iald (pc2 := 59) rfl rfl t57 (by omega) (by omega) (by decide) ?_
    intro v3 e3 r3 k3
    clear e3
    replace k3 := ok_fl k3 (by omega); clear r3
    refine z_icmp_ge (t := 149) (pc2 := 62) rfl rfl rfl (by omega) (by omega) (fun c4 => ?_) (fun c4 => ?_)
    ·
      refine z_aload_n (pc2 := 150) rfl rfl rfl ?_
      refine z_iconst (pc2 := 151) rfl rfl ?_
      refine z_putI (pc2 := 154) rfl rfl rfl rfl rfl rfl t56 (by omega) True.intro ?_
      refine z_lload_n (pc2 := 155) rfl rfl rfl ?_
      refine z_lret rfl rfl ?_
      exact hK _ _ _ (by repeat (first | exact zFr_rf _ | assumption | refine zFr_a ?_ (by decide) | refine zFr_f ?_ (by decide) | refine zFr_n ?_ (by omega) | refine zFr_h ?_ (by omega) | refine zFr_tok ?_ (by omega)))
    ·
      refine z_aload_n (pc2 := 63) rfl rfl rfl ?_
      refine z_iload (pc2 := 65) rfl rfl rfl ?_
      refine z_iload (pc2 := 67) rfl rfl rfl ?_
      refine z_iadd (pc2 := 68) rfl rfl ?_
      refine z_callV (y2 := 256) (as := [_]) (rest := []) (pc2 := 71) rfl rfl rfl rfl t56 rfl ?_
      refine z_inl ?_
      refine z_lv (lv2 := [(0, _), (1, _)]) ⟨rfl, rfl, trivial⟩ ?_
      refine z_aload_n (pc2 := 1) rfl rfl rfl ?_
      refine z_callV (y2 := 162) (as := []) (rest := []) (pc2 := 4) rfl rfl rfl rfl t56 rfl ?_
      refine z_inl ?_
      refine z_lv (lv2 := [(0, _)]) ⟨rfl, trivial⟩ ?_
      refine z_ldc (56100) (pc2 := 2) rfl rfl rfl ?_
      refine z_aload_n (pc2 := 3) rfl rfl rfl ?_
      refine z_getI (pc2 := 6) 0 rfl rfl rfl rfl rfl t56 ?_
      intro v5 e5 r5 k5
      clear e5
      replace k5 : (0 : Int) ≤ v5 ∧ v5 ≤ 1 := k5; clear r5
      refine z_imul (pc2 := 7) rfl rfl ?_
      refine z_iret rfl rfl ?_
      show zB _ _ _ _ _ _ [_] _ _
      refine z_sipush (pc2 := 7) rfl rfl (by decide) ?_
      refine z_iadd (pc2 := 8) rfl rfl ?_
      refine z_bipush (pc2 := 10) rfl rfl (by decide) ?_
      refine z_iload_n (pc2 := 11) rfl rfl rfl ?_
      refine z_imul (pc2 := 12) rfl rfl ?_
      refine z_iadd (pc2 := 13) rfl rfl ?_
      refine z_iret rfl rfl ?_
      show zB _ _ _ _ _ _ [_] _ _
      refine z_istore (lv2 := [(7, _), (0, _), (2, _), (3, _), (5, _), (6, _)]) (pc2 := 73) rfl rfl rfl rfl ?_
      refine z_iconst (pc2 := 74) rfl rfl ?_
      refine z_istore (lv2 := [(8, _), (7, _), (0, _), (2, _), (3, _), (5, _), (6, _)]) (pc2 := 76) rfl rfl rfl rfl ?_
      refine z_lv (lv2 := [(0, _), (2, _), (3, _), (5, _), (6, _), (7, _), (8, _)]) ⟨rfl, rfl, rfl, rfl, rfl, rfl, rfl, trivial⟩ ?_
      exact l_print2 (q := v5) hT (by omega) (by omega) (by omega) (by omega) (by omega) (by omega) (fun I3 G3 d3 h3 h4 => ih I3 G3 d3 _ (by omega) h3 h4 (by omega)) trivial _ _ _ _ _ (by omega) hI2 (by omega) (Nat.lt_succ_self _)
set_option maxHeartbeats 8000000 in
theorem m_print {L : Nat} {xs : Nat → Int32} {n sl : Nat} {T : Nat → zT} {I : Nat → Nat → Int} {P : Nat → Nat → Option Nat} {G : Nat → Nat → Int} {K : List zV → zH → Prop} {x : Int} (hT : ∀ a, 56 ≤ a → a ≤ 90 → T a = zFix a) (hx : zR x) (hK : ∀ e I2 G2, zFr I I2 → K [.inr (.inr e)] (n, sl, T, I2, P, G2)) : zX zMd L xs 261 [.inr (.inl (some 56)), .inl x] (n, sl, T, I, P, G) K := by
  have t56 : T 56 = (1, 12, [1]) := hT 56 (by decide) (by decide)
  refine z_inl ?_
  refine z_lv (lv2 := [(0, _), (1, _)]) ⟨rfl, rfl, trivial⟩ ?_
  refine z_aload_n (pc2 := 1) rfl rfl rfl ?_
  refine z_iload_n (pc2 := 2) rfl rfl rfl ?_
  refine z_callV (y2 := 259) (as := [_]) (rest := []) (pc2 := 5) rfl rfl rfl rfl t56 rfl ?_
  refine m_formeOf hT (by omega) (fun w1 w1r w1g => ?_)
  show zB _ _ _ _ _ _ [_] _ _
  refine z_istore_n (lv2 := [(2, _), (0, _), (1, _)]) (pc2 := 6) rfl rfl rfl rfl ?_
  refine z_iload_n (pc2 := 7) rfl rfl rfl ?_
  refine z_if_ge (t := 19) (pc2 := 10) rfl rfl rfl (by omega) (fun c2 => ?_) (fun c2 => ?_)
  ·
    refine z_aload_n (pc2 := 20) rfl rfl rfl ?_
    refine z_iconst (pc2 := 21) rfl rfl ?_
    refine z_putI (pc2 := 24) rfl rfl rfl rfl rfl rfl t56 (by omega) (by show (0 : Int) ≤ _ ∧ _ ≤ 1000000; omega) ?_
    refine z_ldc2 (17) (pc2 := 27) rfl rfl rfl ?_
    refine z_lstore_n (lv2 := [(3, _), (2, _), (0, _), (1, _)]) (pc2 := 28) rfl rfl rfl rfl ?_
    refine z_aload_n (pc2 := 29) rfl rfl rfl ?_
    refine z_iload_n (pc2 := 30) rfl rfl rfl ?_
    refine z_callV (y2 := 260) (as := [_]) (rest := []) (pc2 := 33) rfl rfl rfl rfl t56 rfl ?_
    refine m_linesAhead hT (by omega) (fun w3 w3r w3g => ?_)
    show zB _ _ _ _ _ _ [_] _ _
    refine z_istore (lv2 := [(5, _), (3, _), (2, _), (0, _), (1, _)]) (pc2 := 35) rfl rfl rfl rfl ?_
    refine z_iconst (pc2 := 36) rfl rfl ?_
    refine z_istore (lv2 := [(6, _), (5, _), (3, _), (2, _), (0, _), (1, _)]) (pc2 := 38) rfl rfl rfl rfl ?_
    refine z_lv (lv2 := [(0, _), (2, _), (3, _), (5, _), (6, _)]) ⟨rfl, rfl, rfl, rfl, rfl, trivial⟩ ?_
    exact l_print1 hT (by omega) (by omega) hK _ _ _ _ _ (by omega) (by repeat (first | exact zFr_rf _ | assumption | refine zFr_a ?_ (by decide) | refine zFr_f ?_ (by decide) | refine zFr_n ?_ (by omega) | refine zFr_h ?_ (by omega) | refine zFr_tok ?_ (by omega))) (by simp [zU]) (Nat.lt_succ_self _)
  ·
    refine z_aload_n (pc2 := 11) rfl rfl rfl ?_
    refine z_iconst (pc2 := 12) rfl rfl ?_
    refine z_callV (y2 := 159) (as := [_]) (rest := []) (pc2 := 15) rfl rfl rfl rfl t56 rfl ?_
    refine z_inl ?_
    refine z_lv (lv2 := [(0, _), (1, _)]) ⟨rfl, rfl, trivial⟩ ?_
    refine z_aload_n (pc2 := 1) rfl rfl rfl ?_
    refine z_iload_n (pc2 := 2) rfl rfl rfl ?_
    refine z_putI (pc2 := 5) rfl rfl rfl rfl rfl rfl t56 (by omega) True.intro ?_
    refine z_iload_n (pc2 := 6) rfl rfl rfl ?_
    refine z_iret rfl rfl ?_
    show zB _ _ _ _ _ _ [_] _ _
    refine z_i2l (pc2 := 16) rfl rfl (by omega) ?_
    refine z_lconst 1 (pc2 := 17) rfl rfl rfl ?_
    refine z_ladd (pc2 := 18) rfl rfl ?_
    refine z_lret rfl rfl ?_
    exact hK _ _ _ (by repeat (first | exact zFr_rf _ | assumption | refine zFr_a ?_ (by decide) | refine zFr_f ?_ (by decide) | refine zFr_n ?_ (by omega) | refine zFr_h ?_ (by omega) | refine zFr_tok ?_ (by omega)))
