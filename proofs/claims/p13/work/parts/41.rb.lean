/-! the reference: founts, text, what is told -/
set_option maxHeartbeats 8000000 in
theorem m_width {L : Nat} {xs : Nat → Int32} {n sl : Nat} {T : Nat → zT} {I : Nat → Nat → Int} {P : Nat → Nat → Option Nat} {G : Nat → Nat → Int} {K : List zV → zH → Prop} {a b c : Int} (hT : ∀ a, 56 ≤ a → a ≤ 90 → T a = zFix a) (ha : zR a) (hb : zR b) (hc : zR c) (hK : ∀ e I2 G2, zFr I I2 → K [.inl e] (n, sl, T, I2, P, G2)) : zX zMd L xs 199 [.inr (.inl (some 56)), .inl a, .inl b, .inl c] (n, sl, T, I, P, G) K := by
  have t56 : T 56 = (1, 12, [1]) := hT 56 (by decide) (by decide)
  have t59 : T 59 = (2, 2, [2, 0]) := hT 59 (by decide) (by decide)
  have t61 : T 61 = (2, 0, [8, 2]) := hT 61 (by decide) (by decide)
  have t62 : T 62 = (2, 0, [192, 0]) := hT 62 (by decide) (by decide)
  refine z_inl ?_
  refine z_lv (lv2 := [(0, _), (1, _), (2, _), (3, _)]) ⟨rfl, rfl, rfl, rfl, trivial⟩ ?_
  refine z_iload_n (pc2 := 1) rfl rfl rfl ?_
  refine z_callS (y2 := 164) (as := [_]) (rest := []) (pc2 := 4) rfl rfl rfl rfl ?_
  refine z_inl ?_
  refine z_lv (lv2 := [(0, _)]) ⟨rfl, trivial⟩ ?_
  refine z_iload_n (pc2 := 1) rfl rfl rfl ?_
  refine z_i2l (pc2 := 2) rfl rfl (by omega) ?_
  refine z_lconst 0 (pc2 := 3) rfl rfl rfl ?_
  refine z_ldc2 (3) (pc2 := 6) rfl rfl rfl ?_
  refine z_callS (y2 := 157) (as := [_, _, _]) (rest := []) (pc2 := 9) rfl rfl rfl rfl ?_
  refine m_in (by omega) (by omega) (by omega) (fun e1 e1a e1b e1c => ?_)
  show zB _ _ _ _ _ _ [_] _ _
  refine z_zret rfl rfl (by omega) ?_
  show zB _ _ _ _ _ _ [_] _ _
  refine z_if_eq (t := 19) (pc2 := 7) rfl rfl rfl (by omega) (fun c2 => ?_) (fun c2 => ?_)
  ·
    refine z_aload_n (pc2 := 20) rfl rfl rfl ?_
    refine z_iconst (pc2 := 21) rfl rfl ?_
    refine z_callV (y2 := 159) (as := [_]) (rest := []) (pc2 := 24) rfl rfl rfl rfl t56 rfl ?_
    refine z_inl ?_
    refine z_lv (lv2 := [(0, _), (1, _)]) ⟨rfl, rfl, trivial⟩ ?_
    refine z_aload_n (pc2 := 1) rfl rfl rfl ?_
    refine z_iload_n (pc2 := 2) rfl rfl rfl ?_
    refine z_putI (pc2 := 5) rfl rfl rfl rfl rfl rfl t56 (by omega) True.intro ?_
    refine z_iload_n (pc2 := 6) rfl rfl rfl ?_
    refine z_iret rfl rfl ?_
    show zB _ _ _ _ _ _ [_] _ _
    refine z_iret rfl rfl ?_
    exact hK _ _ _ (by repeat (first | exact zFr_rf _ | assumption | refine zFr_a ?_ (by decide) | refine zFr_f ?_ (by decide) | refine zFr_n ?_ (by omega) | refine zFr_h ?_ (by omega) | refine zFr_tok ?_ (by omega)))
  ·
    refine z_iload_n (pc2 := 8) rfl rfl rfl ?_
    refine z_i2l (pc2 := 9) rfl rfl (by omega) ?_
    refine z_lconst 1 (pc2 := 10) rfl rfl rfl ?_
    refine z_ldc2 (30) (pc2 := 13) rfl rfl rfl ?_
    refine z_callS (y2 := 157) (as := [_, _, _]) (rest := []) (pc2 := 16) rfl rfl rfl rfl ?_
    refine m_in (by omega) (by omega) (by omega) (fun e3 e3a e3b e3c => ?_)
    show zB _ _ _ _ _ _ [_] _ _
    refine z_if_ne (t := 25) (pc2 := 19) rfl rfl rfl (by omega) (fun c4 => ?_) (fun c4 => ?_)
    ·
      refine z_aload_n (pc2 := 26) rfl rfl rfl ?_
      refine z_iload_n (pc2 := 27) rfl rfl rfl ?_
      refine z_callV (y2 := 197) (as := [_]) (rest := []) (pc2 := 30) rfl rfl rfl rfl t56 rfl ?_
      refine m_bars hT (by omega) (fun w5 Iw5 Gw5 fw5 => ?_)
      replace fw5 := zFr_tr (I := I) (by repeat (first | exact zFr_rf _ | assumption | refine zFr_a ?_ (by decide) | refine zFr_f ?_ (by decide) | refine zFr_n ?_ (by omega) | refine zFr_h ?_ (by omega) | refine zFr_tok ?_ (by omega))) fw5
      show zB _ _ _ _ _ _ [_] _ _
      refine z_istore (lv2 := [(4, _), (0, _), (1, _), (2, _), (3, _)]) (pc2 := 32) rfl rfl rfl rfl ?_
      refine z_iload (pc2 := 34) rfl rfl rfl ?_
      refine z_if_any (t := 40) (pc2 := 37) rfl rfl rfl ?_ ?_
      ·
        refine z_aload_n (pc2 := 41) rfl rfl rfl ?_
        refine z_iload_n (pc2 := 42) rfl rfl rfl ?_
        refine z_callV (y2 := 163) (as := [_]) (rest := []) (pc2 := 45) rfl rfl rfl rfl t56 rfl ?_
        refine z_inl ?_
        refine z_lv (lv2 := [(0, _), (1, _)]) ⟨rfl, rfl, trivial⟩ ?_
        refine z_iconst (pc2 := 1) rfl rfl ?_
        refine z_aload_n (pc2 := 2) rfl rfl rfl ?_
        refine z_getI (pc2 := 5) 0 rfl rfl rfl rfl rfl t56 ?_
        intro v6 e6 r6 k6
        clear e6
        replace k6 : (0 : Int) ≤ v6 ∧ v6 ≤ 1 := k6; clear r6
        refine z_imul (pc2 := 6) rfl rfl ?_
        refine z_iload_n (pc2 := 7) rfl rfl rfl ?_
        refine z_iadd (pc2 := 8) rfl rfl ?_
        refine z_iret rfl rfl ?_
        show zB _ _ _ _ _ _ [_] _ _
        refine z_istore (lv2 := [(5, _), (4, _), (0, _), (1, _), (2, _), (3, _)]) (pc2 := 47) rfl rfl rfl rfl ?_
        refine z_iload_n (pc2 := 48) rfl rfl rfl ?_
        refine z_i2l (pc2 := 49) rfl rfl (by omega) ?_
        refine z_lconst 0 (pc2 := 50) rfl rfl rfl ?_
        refine z_aload_n (pc2 := 51) rfl rfl rfl ?_
        refine z_getP (pc2 := 54) rfl rfl rfl rfl t56 ?_
        intro p7 p7e p7k; replace p7k : p7 = some 61 := p7k; clear p7e; subst p7k
        refine z_iload (pc2 := 56) rfl rfl rfl ?_
        refine z_iald (pc2 := 57) rfl rfl t61 (by omega) (by omega) (by decide) ?_
        intro v8 e8 r8 k8
        clear e8
        replace k8 : (-1 : Int) ≤ v8 ∧ v8 ≤ 24 := k8; clear r8
        refine z_iconst (pc2 := 58) rfl rfl ?_
        refine z_isub (pc2 := 59) rfl rfl ?_
        refine z_i2l (pc2 := 60) rfl rfl (by omega) ?_
        refine z_callS (y2 := 157) (as := [_, _, _]) (rest := []) (pc2 := 63) rfl rfl rfl rfl ?_
        refine m_in (by omega) (by omega) (by omega) (fun e9 e9a e9b e9c => ?_)
        show zB _ _ _ _ _ _ [_] _ _
        refine z_if_ne (t := 72) (pc2 := 66) rfl rfl rfl (by omega) (fun c10 => ?_) (fun c10 => ?_)
        ·
          refine z_aload_n (pc2 := 73) rfl rfl rfl ?_
          refine z_getP (pc2 := 76) rfl rfl rfl rfl t56 ?_
          intro p11 p11e p11k; replace p11k : p11 = some 62 := p11k; clear p11e; subst p11k
          refine z_bipush (pc2 := 78) rfl rfl (by decide) ?_
          refine z_iload (pc2 := 80) rfl rfl rfl ?_
          refine z_imul (pc2 := 81) rfl rfl ?_
          refine z_iload_n (pc2 := 82) rfl rfl rfl ?_
          refine z_iadd (pc2 := 83) rfl rfl ?_
          refine z_iald (pc2 := 84) rfl rfl t62 (by omega) (by omega) (by decide) ?_
          intro v12 e12 r12 k12
          clear e12
          clear k12
          refine z_istore (lv2 := [(6, _), (5, _), (4, _), (0, _), (1, _), (2, _), (3, _)]) (pc2 := 86) rfl rfl rfl rfl ?_
          refine z_aload_n (pc2 := 87) rfl rfl rfl ?_
          refine z_getP (pc2 := 90) rfl rfl rfl rfl t56 ?_
          intro p13 p13e p13k; replace p13k : p13 = some 62 := p13k; clear p13e; subst p13k
          refine z_bipush (pc2 := 92) rfl rfl (by decide) ?_
          refine z_iload (pc2 := 94) rfl rfl rfl ?_
          refine z_imul (pc2 := 95) rfl rfl ?_
          refine z_iload_n (pc2 := 96) rfl rfl rfl ?_
          refine z_iadd (pc2 := 97) rfl rfl ?_
          refine z_iload_n (pc2 := 98) rfl rfl rfl ?_
          refine z_iast (pc2 := 99) rfl rfl t62 (by omega) (by omega) (by decide) (by omega) True.intro ?_
          refine z_aload_n (pc2 := 100) rfl rfl rfl ?_
          refine z_iload (pc2 := 102) rfl rfl rfl ?_
          refine z_callV (y2 := 198) (as := [_]) (rest := []) (pc2 := 105) rfl rfl rfl rfl t56 rfl ?_
          refine z_inl ?_
          refine z_lv (lv2 := [(0, _), (1, _)]) ⟨rfl, rfl, trivial⟩ ?_
          refine z_aload_n (pc2 := 1) rfl rfl rfl ?_
          refine z_callV (y2 := 168) (as := []) (rest := []) (pc2 := 4) rfl rfl rfl rfl t56 rfl ?_
          refine z_inl ?_
          refine z_lv (lv2 := [(0, _)]) ⟨rfl, trivial⟩ ?_
          refine z_aload_n (pc2 := 1) rfl rfl rfl ?_
          refine z_getP (pc2 := 4) rfl rfl rfl rfl t56 ?_
          intro p14 p14e p14k; replace p14k : p14 = some 59 := p14k; clear p14e; subst p14k
          refine z_aload_n (pc2 := 5) rfl rfl rfl ?_
          refine z_getI (pc2 := 8) 0 rfl rfl rfl rfl rfl t56 ?_
          intro v15 e15 r15 k15
          clear e15
          replace k15 : (0 : Int) ≤ v15 ∧ v15 ≤ 1 := k15; clear r15
          refine z_iconst (pc2 := 9) rfl rfl ?_
          refine z_bast (pc2 := 10) rfl rfl t59 (by omega) (by omega) (by decide) (by omega) True.intro ?_
          refine z_ret rfl rfl ?_
          show zB _ _ _ _ _ _ [] _ _
          refine z_aload_n (pc2 := 5) rfl rfl rfl ?_
          refine z_iload_n (pc2 := 6) rfl rfl rfl ?_
          refine z_callV (y2 := 158) (as := [_]) (rest := []) (pc2 := 9) rfl rfl rfl rfl t56 rfl ?_
          refine z_inl ?_
          refine z_lv (lv2 := [(0, _), (1, _)]) ⟨rfl, rfl, trivial⟩ ?_
          refine z_aload_n (pc2 := 1) rfl rfl rfl ?_
          refine z_iconst (pc2 := 2) rfl rfl ?_
          refine z_putI (pc2 := 5) rfl rfl rfl rfl rfl rfl t56 (by omega) True.intro ?_
          refine z_iload_n (pc2 := 6) rfl rfl rfl ?_
          refine z_iret rfl rfl ?_
          show zB _ _ _ _ _ _ [_] _ _
          refine z_iret rfl rfl ?_
          show zB _ _ _ _ _ _ [_] _ _
          refine z_iret rfl rfl ?_
          exact hK _ _ _ (by repeat (first | exact zFr_rf _ | assumption | refine zFr_a ?_ (by decide) | refine zFr_f ?_ (by decide) | refine zFr_n ?_ (by omega) | refine zFr_h ?_ (by omega) | refine zFr_tok ?_ (by omega)))
        ·
          refine z_aload_n (pc2 := 67) rfl rfl rfl ?_
          refine z_iconst (pc2 := 68) rfl rfl ?_
          refine z_callV (y2 := 160) (as := [_]) (rest := []) (pc2 := 71) rfl rfl rfl rfl t56 rfl ?_
          refine z_inl ?_
          refine z_lv (lv2 := [(0, _), (1, _)]) ⟨rfl, rfl, trivial⟩ ?_
          refine z_aload_n (pc2 := 1) rfl rfl rfl ?_
          refine z_dup (pc2 := 2) rfl rfl rfl ?_
          refine z_getI (pc2 := 5) 0 rfl rfl rfl rfl rfl t56 ?_
          intro v16 e16 r16 k16
          clear e16
          clear k16
          refine z_iconst (pc2 := 6) rfl rfl ?_
          refine z_iadd (pc2 := 7) rfl rfl ?_
          refine z_putI_any (pc2 := 10) rfl rfl rfl rfl rfl rfl t56 (fun _ _ => True.intro) (fun u17 u17r => ?_); clear u17r
          refine z_aload_n (pc2 := 11) rfl rfl rfl ?_
          refine z_bipush (pc2 := 13) rfl rfl (by decide) ?_
          refine z_iload_n (pc2 := 14) rfl rfl rfl ?_
          refine z_isub (pc2 := 15) rfl rfl ?_
          refine z_putI (pc2 := 18) rfl rfl rfl rfl rfl rfl t56 (by omega) True.intro ?_
          refine z_aload_n (pc2 := 19) rfl rfl rfl ?_
          refine z_getI (pc2 := 22) 0 rfl rfl rfl rfl rfl t56 ?_
          intro v18 e18 r18 k18
          clear e18
          clear k18
          refine z_iret rfl rfl ?_
          show zB _ _ _ _ _ _ [_] _ _
          refine z_iret rfl rfl ?_
          exact hK _ _ _ (by repeat (first | exact zFr_rf _ | assumption | refine zFr_a ?_ (by decide) | refine zFr_f ?_ (by decide) | refine zFr_n ?_ (by omega) | refine zFr_h ?_ (by omega) | refine zFr_tok ?_ (by omega)))
      ·
        refine z_iload (pc2 := 39) rfl rfl rfl ?_
        refine z_iret rfl rfl ?_
        exact hK _ _ _ (by repeat (first | exact zFr_rf _ | assumption | refine zFr_a ?_ (by decide) | refine zFr_f ?_ (by decide) | refine zFr_n ?_ (by omega) | refine zFr_h ?_ (by omega) | refine zFr_tok ?_ (by omega)))
    ·
      refine z_aload_n (pc2 := 20) rfl rfl rfl ?_
      refine z_iconst (pc2 := 21) rfl rfl ?_
      refine z_callV (y2 := 159) (as := [_]) (rest := []) (pc2 := 24) rfl rfl rfl rfl t56 rfl ?_
      refine z_inl ?_
      refine z_lv (lv2 := [(0, _), (1, _)]) ⟨rfl, rfl, trivial⟩ ?_
      refine z_aload_n (pc2 := 1) rfl rfl rfl ?_
      refine z_iload_n (pc2 := 2) rfl rfl rfl ?_
      refine z_putI (pc2 := 5) rfl rfl rfl rfl rfl rfl t56 (by omega) True.intro ?_
      refine z_iload_n (pc2 := 6) rfl rfl rfl ?_
      refine z_iret rfl rfl ?_
      show zB _ _ _ _ _ _ [_] _ _
      refine z_iret rfl rfl ?_
      exact hK _ _ _ (by repeat (first | exact zFr_rf _ | assumption | refine zFr_a ?_ (by decide) | refine zFr_f ?_ (by decide) | refine zFr_n ?_ (by omega) | refine zFr_h ?_ (by omega) | refine zFr_tok ?_ (by omega)))
set_option maxHeartbeats 8000000 in
theorem m_ornament {L : Nat} {xs : Nat → Int32} {n sl : Nat} {T : Nat → zT} {I : Nat → Nat → Int} {P : Nat → Nat → Option Nat} {G : Nat → Nat → Int} {K : List zV → zH → Prop} {a b c : Int} (hT : ∀ a, 56 ≤ a → a ≤ 90 → T a = zFix a) (ha : zR a) (hb : zR b) (hc : zR c) (hK : ∀ e I2 G2, zFr I I2 → K [.inl e] (n, sl, T, I2, P, G2)) : zX zMd L xs 203 [.inr (.inl (some 56)), .inl a, .inl b, .inl c] (n, sl, T, I, P, G) K := by
  have t56 : T 56 = (1, 12, [1]) := hT 56 (by decide) (by decide)
  have t59 : T 59 = (2, 2, [2, 0]) := hT 59 (by decide) (by decide)
  have t70 : T 70 = (2, 0, [32, 0]) := hT 70 (by decide) (by decide)
  refine z_inl ?_
  refine z_lv (lv2 := [(0, _), (1, _), (2, _), (3, _)]) ⟨rfl, rfl, rfl, rfl, trivial⟩ ?_
  refine z_iload_n (pc2 := 1) rfl rfl rfl ?_
  refine z_callS (y2 := 164) (as := [_]) (rest := []) (pc2 := 4) rfl rfl rfl rfl ?_
  refine z_inl ?_
  refine z_lv (lv2 := [(0, _)]) ⟨rfl, trivial⟩ ?_
  refine z_iload_n (pc2 := 1) rfl rfl rfl ?_
  refine z_i2l (pc2 := 2) rfl rfl (by omega) ?_
  refine z_lconst 0 (pc2 := 3) rfl rfl rfl ?_
  refine z_ldc2 (3) (pc2 := 6) rfl rfl rfl ?_
  refine z_callS (y2 := 157) (as := [_, _, _]) (rest := []) (pc2 := 9) rfl rfl rfl rfl ?_
  refine m_in (by omega) (by omega) (by omega) (fun e1 e1a e1b e1c => ?_)
  show zB _ _ _ _ _ _ [_] _ _
  refine z_zret rfl rfl (by omega) ?_
  show zB _ _ _ _ _ _ [_] _ _
  refine z_if_eq (t := 19) (pc2 := 7) rfl rfl rfl (by omega) (fun c2 => ?_) (fun c2 => ?_)
  ·
    refine z_aload_n (pc2 := 20) rfl rfl rfl ?_
    refine z_iconst (pc2 := 21) rfl rfl ?_
    refine z_callV (y2 := 159) (as := [_]) (rest := []) (pc2 := 24) rfl rfl rfl rfl t56 rfl ?_
    refine z_inl ?_
    refine z_lv (lv2 := [(0, _), (1, _)]) ⟨rfl, rfl, trivial⟩ ?_
    refine z_aload_n (pc2 := 1) rfl rfl rfl ?_
    refine z_iload_n (pc2 := 2) rfl rfl rfl ?_
    refine z_putI (pc2 := 5) rfl rfl rfl rfl rfl rfl t56 (by omega) True.intro ?_
    refine z_iload_n (pc2 := 6) rfl rfl rfl ?_
    refine z_iret rfl rfl ?_
    show zB _ _ _ _ _ _ [_] _ _
    refine z_iret rfl rfl ?_
    exact hK _ _ _ (by repeat (first | exact zFr_rf _ | assumption | refine zFr_a ?_ (by decide) | refine zFr_f ?_ (by decide) | refine zFr_n ?_ (by omega) | refine zFr_h ?_ (by omega) | refine zFr_tok ?_ (by omega)))
  ·
    refine z_iload_n (pc2 := 8) rfl rfl rfl ?_
    refine z_i2l (pc2 := 9) rfl rfl (by omega) ?_
    refine z_lconst 1 (pc2 := 10) rfl rfl rfl ?_
    refine z_ldc2 (30) (pc2 := 13) rfl rfl rfl ?_
    refine z_callS (y2 := 157) (as := [_, _, _]) (rest := []) (pc2 := 16) rfl rfl rfl rfl ?_
    refine m_in (by omega) (by omega) (by omega) (fun e3 e3a e3b e3c => ?_)
    show zB _ _ _ _ _ _ [_] _ _
    refine z_if_ne (t := 25) (pc2 := 19) rfl rfl rfl (by omega) (fun c4 => ?_) (fun c4 => ?_)
    ·
      refine z_aload_n (pc2 := 26) rfl rfl rfl ?_
      refine z_iload_n (pc2 := 27) rfl rfl rfl ?_
      refine z_callV (y2 := 197) (as := [_]) (rest := []) (pc2 := 30) rfl rfl rfl rfl t56 rfl ?_
      refine m_bars hT (by omega) (fun w5 Iw5 Gw5 fw5 => ?_)
      replace fw5 := zFr_tr (I := I) (by repeat (first | exact zFr_rf _ | assumption | refine zFr_a ?_ (by decide) | refine zFr_f ?_ (by decide) | refine zFr_n ?_ (by omega) | refine zFr_h ?_ (by omega) | refine zFr_tok ?_ (by omega))) fw5
      show zB _ _ _ _ _ _ [_] _ _
      refine z_istore (lv2 := [(4, _), (0, _), (1, _), (2, _), (3, _)]) (pc2 := 32) rfl rfl rfl rfl ?_
      refine z_iload (pc2 := 34) rfl rfl rfl ?_
      refine z_if_any (t := 40) (pc2 := 37) rfl rfl rfl ?_ ?_
      ·
        refine z_iload_n (pc2 := 41) rfl rfl rfl ?_
        refine z_i2l (pc2 := 42) rfl rfl (by omega) ?_
        refine z_lconst 0 (pc2 := 43) rfl rfl rfl ?_
        refine z_ldc2 (3) (pc2 := 46) rfl rfl rfl ?_
        refine z_callS (y2 := 157) (as := [_, _, _]) (rest := []) (pc2 := 49) rfl rfl rfl rfl ?_
        refine m_in (by omega) (by omega) (by omega) (fun e6 e6a e6b e6c => ?_)
        show zB _ _ _ _ _ _ [_] _ _
        refine z_if_ne (t := 58) (pc2 := 52) rfl rfl rfl (by omega) (fun c7 => ?_) (fun c7 => ?_)
        ·
          refine z_aload_n (pc2 := 59) rfl rfl rfl ?_
          refine z_getP (pc2 := 62) rfl rfl rfl rfl t56 ?_
          intro p8 p8e p8k; replace p8k : p8 = some 70 := p8k; clear p8e; subst p8k
          refine z_iconst (pc2 := 63) rfl rfl ?_
          refine z_aload_n (pc2 := 64) rfl rfl rfl ?_
          refine z_iload_n (pc2 := 65) rfl rfl rfl ?_
          refine z_callV (y2 := 163) (as := [_]) (rest := [_, _]) (pc2 := 68) rfl rfl rfl rfl t56 rfl ?_
          refine z_inl ?_
          refine z_lv (lv2 := [(0, _), (1, _)]) ⟨rfl, rfl, trivial⟩ ?_
          refine z_iconst (pc2 := 1) rfl rfl ?_
          refine z_aload_n (pc2 := 2) rfl rfl rfl ?_
          refine z_getI (pc2 := 5) 0 rfl rfl rfl rfl rfl t56 ?_
          intro v9 e9 r9 k9
          clear e9
          replace k9 : (0 : Int) ≤ v9 ∧ v9 ≤ 1 := k9; clear r9
          refine z_imul (pc2 := 6) rfl rfl ?_
          refine z_iload_n (pc2 := 7) rfl rfl rfl ?_
          refine z_iadd (pc2 := 8) rfl rfl ?_
          refine z_iret rfl rfl ?_
          show zB _ _ _ _ _ _ [_, _, _] _ _
          refine z_imul (pc2 := 69) rfl rfl ?_
          refine z_iload_n (pc2 := 70) rfl rfl rfl ?_
          refine z_iadd (pc2 := 71) rfl rfl ?_
          refine z_iald (pc2 := 72) rfl rfl t70 (by omega) (by omega) (by decide) ?_
          intro v10 e10 r10 k10
          clear e10
          clear k10
          refine z_istore (lv2 := [(5, _), (4, _), (0, _), (1, _), (2, _), (3, _)]) (pc2 := 74) rfl rfl rfl rfl ?_
          refine z_aload_n (pc2 := 75) rfl rfl rfl ?_
          refine z_getP (pc2 := 78) rfl rfl rfl rfl t56 ?_
          intro p11 p11e p11k; replace p11k : p11 = some 70 := p11k; clear p11e; subst p11k
          refine z_iconst (pc2 := 79) rfl rfl ?_
          refine z_aload_n (pc2 := 80) rfl rfl rfl ?_
          refine z_iload_n (pc2 := 81) rfl rfl rfl ?_
          refine z_callV (y2 := 163) (as := [_]) (rest := [_, _]) (pc2 := 84) rfl rfl rfl rfl t56 rfl ?_
          refine z_inl ?_
          refine z_lv (lv2 := [(0, _), (1, _)]) ⟨rfl, rfl, trivial⟩ ?_
          refine z_iconst (pc2 := 1) rfl rfl ?_
          refine z_aload_n (pc2 := 2) rfl rfl rfl ?_
          refine z_getI (pc2 := 5) 0 rfl rfl rfl rfl rfl t56 ?_
          intro v12 e12 r12 k12
          clear e12
          replace k12 : (0 : Int) ≤ v12 ∧ v12 ≤ 1 := k12; clear r12
          refine z_imul (pc2 := 6) rfl rfl ?_
          refine z_iload_n (pc2 := 7) rfl rfl rfl ?_
          refine z_iadd (pc2 := 8) rfl rfl ?_
          refine z_iret rfl rfl ?_
          show zB _ _ _ _ _ _ [_, _, _] _ _
          refine z_imul (pc2 := 85) rfl rfl ?_
          refine z_iload_n (pc2 := 86) rfl rfl rfl ?_
          refine z_iadd (pc2 := 87) rfl rfl ?_
          refine z_iload_n (pc2 := 88) rfl rfl rfl ?_
          refine z_iast (pc2 := 89) rfl rfl t70 (by omega) (by omega) (by decide) (by omega) True.intro ?_
          refine z_aload_n (pc2 := 90) rfl rfl rfl ?_
          refine z_iload (pc2 := 92) rfl rfl rfl ?_
          refine z_callV (y2 := 198) (as := [_]) (rest := []) (pc2 := 95) rfl rfl rfl rfl t56 rfl ?_
          refine z_inl ?_
          refine z_lv (lv2 := [(0, _), (1, _)]) ⟨rfl, rfl, trivial⟩ ?_
          refine z_aload_n (pc2 := 1) rfl rfl rfl ?_
          refine z_callV (y2 := 168) (as := []) (rest := []) (pc2 := 4) rfl rfl rfl rfl t56 rfl ?_
          refine z_inl ?_
          refine z_lv (lv2 := [(0, _)]) ⟨rfl, trivial⟩ ?_
          refine z_aload_n (pc2 := 1) rfl rfl rfl ?_
          refine z_getP (pc2 := 4) rfl rfl rfl rfl t56 ?_
          intro p13 p13e p13k; replace p13k : p13 = some 59 := p13k; clear p13e; subst p13k
          refine z_aload_n (pc2 := 5) rfl rfl rfl ?_
          refine z_getI (pc2 := 8) 0 rfl rfl rfl rfl rfl t56 ?_
          intro v14 e14 r14 k14
          clear e14
          replace k14 : (0 : Int) ≤ v14 ∧ v14 ≤ 1 := k14; clear r14
          refine z_iconst (pc2 := 9) rfl rfl ?_
          refine z_bast (pc2 := 10) rfl rfl t59 (by omega) (by omega) (by decide) (by omega) True.intro ?_
          refine z_ret rfl rfl ?_
          show zB _ _ _ _ _ _ [] _ _
          refine z_aload_n (pc2 := 5) rfl rfl rfl ?_
          refine z_iload_n (pc2 := 6) rfl rfl rfl ?_
          refine z_callV (y2 := 158) (as := [_]) (rest := []) (pc2 := 9) rfl rfl rfl rfl t56 rfl ?_
          refine z_inl ?_
          refine z_lv (lv2 := [(0, _), (1, _)]) ⟨rfl, rfl, trivial⟩ ?_
          refine z_aload_n (pc2 := 1) rfl rfl rfl ?_
          refine z_iconst (pc2 := 2) rfl rfl ?_
          refine z_putI (pc2 := 5) rfl rfl rfl rfl rfl rfl t56 (by omega) True.intro ?_
          refine z_iload_n (pc2 := 6) rfl rfl rfl ?_
          refine z_iret rfl rfl ?_
          show zB _ _ _ _ _ _ [_] _ _
          refine z_iret rfl rfl ?_
          show zB _ _ _ _ _ _ [_] _ _
          refine z_iret rfl rfl ?_
          exact hK _ _ _ (by repeat (first | exact zFr_rf _ | assumption | refine zFr_a ?_ (by decide) | refine zFr_f ?_ (by decide) | refine zFr_n ?_ (by omega) | refine zFr_h ?_ (by omega) | refine zFr_tok ?_ (by omega)))
        ·
          refine z_aload_n (pc2 := 53) rfl rfl rfl ?_
          refine z_iconst (pc2 := 54) rfl rfl ?_
          refine z_callV (y2 := 160) (as := [_]) (rest := []) (pc2 := 57) rfl rfl rfl rfl t56 rfl ?_
          refine z_inl ?_
          refine z_lv (lv2 := [(0, _), (1, _)]) ⟨rfl, rfl, trivial⟩ ?_
          refine z_aload_n (pc2 := 1) rfl rfl rfl ?_
          refine z_dup (pc2 := 2) rfl rfl rfl ?_
          refine z_getI (pc2 := 5) 0 rfl rfl rfl rfl rfl t56 ?_
          intro v15 e15 r15 k15
          clear e15
          clear k15
          refine z_iconst (pc2 := 6) rfl rfl ?_
          refine z_iadd (pc2 := 7) rfl rfl ?_
          refine z_putI_any (pc2 := 10) rfl rfl rfl rfl rfl rfl t56 (fun _ _ => True.intro) (fun u16 u16r => ?_); clear u16r
          refine z_aload_n (pc2 := 11) rfl rfl rfl ?_
          refine z_bipush (pc2 := 13) rfl rfl (by decide) ?_
          refine z_iload_n (pc2 := 14) rfl rfl rfl ?_
          refine z_isub (pc2 := 15) rfl rfl ?_
          refine z_putI (pc2 := 18) rfl rfl rfl rfl rfl rfl t56 (by omega) True.intro ?_
          refine z_aload_n (pc2 := 19) rfl rfl rfl ?_
          refine z_getI (pc2 := 22) 0 rfl rfl rfl rfl rfl t56 ?_
          intro v17 e17 r17 k17
          clear e17
          clear k17
          refine z_iret rfl rfl ?_
          show zB _ _ _ _ _ _ [_] _ _
          refine z_iret rfl rfl ?_
          exact hK _ _ _ (by repeat (first | exact zFr_rf _ | assumption | refine zFr_a ?_ (by decide) | refine zFr_f ?_ (by decide) | refine zFr_n ?_ (by omega) | refine zFr_h ?_ (by omega) | refine zFr_tok ?_ (by omega)))
      ·
        refine z_iload (pc2 := 39) rfl rfl rfl ?_
        refine z_iret rfl rfl ?_
        exact hK _ _ _ (by repeat (first | exact zFr_rf _ | assumption | refine zFr_a ?_ (by decide) | refine zFr_f ?_ (by decide) | refine zFr_n ?_ (by omega) | refine zFr_h ?_ (by omega) | refine zFr_tok ?_ (by omega)))
    ·
      refine z_aload_n (pc2 := 20) rfl rfl rfl ?_
      refine z_iconst (pc2 := 21) rfl rfl ?_
      refine z_callV (y2 := 159) (as := [_]) (rest := []) (pc2 := 24) rfl rfl rfl rfl t56 rfl ?_
      refine z_inl ?_
      refine z_lv (lv2 := [(0, _), (1, _)]) ⟨rfl, rfl, trivial⟩ ?_
      refine z_aload_n (pc2 := 1) rfl rfl rfl ?_
      refine z_iload_n (pc2 := 2) rfl rfl rfl ?_
      refine z_putI (pc2 := 5) rfl rfl rfl rfl rfl rfl t56 (by omega) True.intro ?_
      refine z_iload_n (pc2 := 6) rfl rfl rfl ?_
      refine z_iret rfl rfl ?_
      show zB _ _ _ _ _ _ [_] _ _
      refine z_iret rfl rfl ?_
      exact hK _ _ _ (by repeat (first | exact zFr_rf _ | assumption | refine zFr_a ?_ (by decide) | refine zFr_f ?_ (by decide) | refine zFr_n ?_ (by omega) | refine zFr_h ?_ (by omega) | refine zFr_tok ?_ (by omega)))
set_option maxHeartbeats 8000000 in
theorem m_spacing {L : Nat} {xs : Nat → Int32} {n sl : Nat} {T : Nat → zT} {I : Nat → Nat → Int} {P : Nat → Nat → Option Nat} {G : Nat → Nat → Int} {K : List zV → zH → Prop} {a b c d e : Int} (hT : ∀ a, 56 ≤ a → a ≤ 90 → T a = zFix a) (ha : zR a) (hb : zR b) (hc : zR c) (hd : zR d) (he : zR e) (hK : ∀ e I2 G2, zFr I I2 → K [.inl e] (n, sl, T, I2, P, G2)) : zX zMd L xs 204 [.inr (.inl (some 56)), .inl a, .inl b, .inl c, .inl d, .inl e] (n, sl, T, I, P, G) K := by
  have t56 : T 56 = (1, 12, [1]) := hT 56 (by decide) (by decide)
  have t59 : T 59 = (2, 2, [2, 0]) := hT 59 (by decide) (by decide)
  have t71 : T 71 = (2, 0, [8, 0]) := hT 71 (by decide) (by decide)
  have t72 : T 72 = (2, 0, [8, 0]) := hT 72 (by decide) (by decide)
  have t73 : T 73 = (2, 0, [8, 0]) := hT 73 (by decide) (by decide)
  have t74 : T 74 = (2, 0, [8, 13]) := hT 74 (by decide) (by decide)
  refine z_inl ?_
  refine z_lv (lv2 := [(0, _), (1, _), (2, _), (3, _), (4, _), (5, _)]) ⟨rfl, rfl, rfl, rfl, rfl, rfl, trivial⟩ ?_
  refine z_iload_n (pc2 := 1) rfl rfl rfl ?_
  refine z_callS (y2 := 164) (as := [_]) (rest := []) (pc2 := 4) rfl rfl rfl rfl ?_
  refine z_inl ?_
  refine z_lv (lv2 := [(0, _)]) ⟨rfl, trivial⟩ ?_
  refine z_iload_n (pc2 := 1) rfl rfl rfl ?_
  refine z_i2l (pc2 := 2) rfl rfl (by omega) ?_
  refine z_lconst 0 (pc2 := 3) rfl rfl rfl ?_
  refine z_ldc2 (3) (pc2 := 6) rfl rfl rfl ?_
  refine z_callS (y2 := 157) (as := [_, _, _]) (rest := []) (pc2 := 9) rfl rfl rfl rfl ?_
  refine m_in (by omega) (by omega) (by omega) (fun e1 e1a e1b e1c => ?_)
  show zB _ _ _ _ _ _ [_] _ _
  refine z_zret rfl rfl (by omega) ?_
  show zB _ _ _ _ _ _ [_] _ _
  refine z_if_eq (t := 56) (pc2 := 7) rfl rfl rfl (by omega) (fun c2 => ?_) (fun c2 => ?_)
  ·
    refine z_aload_n (pc2 := 57) rfl rfl rfl ?_
    refine z_iconst (pc2 := 58) rfl rfl ?_
    refine z_callV (y2 := 159) (as := [_]) (rest := []) (pc2 := 61) rfl rfl rfl rfl t56 rfl ?_
    refine z_inl ?_
    refine z_lv (lv2 := [(0, _), (1, _)]) ⟨rfl, rfl, trivial⟩ ?_
    refine z_aload_n (pc2 := 1) rfl rfl rfl ?_
    refine z_iload_n (pc2 := 2) rfl rfl rfl ?_
    refine z_putI (pc2 := 5) rfl rfl rfl rfl rfl rfl t56 (by omega) True.intro ?_
    refine z_iload_n (pc2 := 6) rfl rfl rfl ?_
    refine z_iret rfl rfl ?_
    show zB _ _ _ _ _ _ [_] _ _
    refine z_iret rfl rfl ?_
    exact hK _ _ _ (by repeat (first | exact zFr_rf _ | assumption | refine zFr_a ?_ (by decide) | refine zFr_f ?_ (by decide) | refine zFr_n ?_ (by omega) | refine zFr_h ?_ (by omega) | refine zFr_tok ?_ (by omega)))
  ·
    refine z_iload_n (pc2 := 8) rfl rfl rfl ?_
    refine z_i2l (pc2 := 9) rfl rfl (by omega) ?_
    refine z_lconst 1 (pc2 := 10) rfl rfl rfl ?_
    refine z_ldc2 (9) (pc2 := 13) rfl rfl rfl ?_
    refine z_callS (y2 := 157) (as := [_, _, _]) (rest := []) (pc2 := 16) rfl rfl rfl rfl ?_
    refine m_in (by omega) (by omega) (by omega) (fun e3 e3a e3b e3c => ?_)
    show zB _ _ _ _ _ _ [_] _ _
    refine z_if_eq (t := 56) (pc2 := 19) rfl rfl rfl (by omega) (fun c4 => ?_) (fun c4 => ?_)
    ·
      refine z_aload_n (pc2 := 57) rfl rfl rfl ?_
      refine z_iconst (pc2 := 58) rfl rfl ?_
      refine z_callV (y2 := 159) (as := [_]) (rest := []) (pc2 := 61) rfl rfl rfl rfl t56 rfl ?_
      refine z_inl ?_
      refine z_lv (lv2 := [(0, _), (1, _)]) ⟨rfl, rfl, trivial⟩ ?_
      refine z_aload_n (pc2 := 1) rfl rfl rfl ?_
      refine z_iload_n (pc2 := 2) rfl rfl rfl ?_
      refine z_putI (pc2 := 5) rfl rfl rfl rfl rfl rfl t56 (by omega) True.intro ?_
      refine z_iload_n (pc2 := 6) rfl rfl rfl ?_
      refine z_iret rfl rfl ?_
      show zB _ _ _ _ _ _ [_] _ _
      refine z_iret rfl rfl ?_
      exact hK _ _ _ (by repeat (first | exact zFr_rf _ | assumption | refine zFr_a ?_ (by decide) | refine zFr_f ?_ (by decide) | refine zFr_n ?_ (by omega) | refine zFr_h ?_ (by omega) | refine zFr_tok ?_ (by omega)))
    ·
      refine z_iload_n (pc2 := 20) rfl rfl rfl ?_
      refine z_i2l (pc2 := 21) rfl rfl (by omega) ?_
      refine z_lconst 0 (pc2 := 22) rfl rfl rfl ?_
      refine z_ldc2 (9) (pc2 := 25) rfl rfl rfl ?_
      refine z_callS (y2 := 157) (as := [_, _, _]) (rest := []) (pc2 := 28) rfl rfl rfl rfl ?_
      refine m_in (by omega) (by omega) (by omega) (fun e5 e5a e5b e5c => ?_)
      show zB _ _ _ _ _ _ [_] _ _
      refine z_if_eq (t := 56) (pc2 := 31) rfl rfl rfl (by omega) (fun c6 => ?_) (fun c6 => ?_)
      ·
        refine z_aload_n (pc2 := 57) rfl rfl rfl ?_
        refine z_iconst (pc2 := 58) rfl rfl ?_
        refine z_callV (y2 := 159) (as := [_]) (rest := []) (pc2 := 61) rfl rfl rfl rfl t56 rfl ?_
        refine z_inl ?_
        refine z_lv (lv2 := [(0, _), (1, _)]) ⟨rfl, rfl, trivial⟩ ?_
        refine z_aload_n (pc2 := 1) rfl rfl rfl ?_
        refine z_iload_n (pc2 := 2) rfl rfl rfl ?_
        refine z_putI (pc2 := 5) rfl rfl rfl rfl rfl rfl t56 (by omega) True.intro ?_
        refine z_iload_n (pc2 := 6) rfl rfl rfl ?_
        refine z_iret rfl rfl ?_
        show zB _ _ _ _ _ _ [_] _ _
        refine z_iret rfl rfl ?_
        exact hK _ _ _ (by repeat (first | exact zFr_rf _ | assumption | refine zFr_a ?_ (by decide) | refine zFr_f ?_ (by decide) | refine zFr_n ?_ (by omega) | refine zFr_h ?_ (by omega) | refine zFr_tok ?_ (by omega)))
      ·
        refine z_iload (pc2 := 33) rfl rfl rfl ?_
        refine z_i2l (pc2 := 34) rfl rfl (by omega) ?_
        refine z_lconst 0 (pc2 := 35) rfl rfl rfl ?_
        refine z_iload_n (pc2 := 36) rfl rfl rfl ?_
        refine z_i2l (pc2 := 37) rfl rfl (by omega) ?_
        refine z_callS (y2 := 157) (as := [_, _, _]) (rest := []) (pc2 := 40) rfl rfl rfl rfl ?_
        refine m_in (by omega) (by omega) (by omega) (fun e7 e7a e7b e7c => ?_)
        show zB _ _ _ _ _ _ [_] _ _
        refine z_if_eq (t := 56) (pc2 := 43) rfl rfl rfl (by omega) (fun c8 => ?_) (fun c8 => ?_)
        ·
          refine z_aload_n (pc2 := 57) rfl rfl rfl ?_
          refine z_iconst (pc2 := 58) rfl rfl ?_
          refine z_callV (y2 := 159) (as := [_]) (rest := []) (pc2 := 61) rfl rfl rfl rfl t56 rfl ?_
          refine z_inl ?_
          refine z_lv (lv2 := [(0, _), (1, _)]) ⟨rfl, rfl, trivial⟩ ?_
          refine z_aload_n (pc2 := 1) rfl rfl rfl ?_
          refine z_iload_n (pc2 := 2) rfl rfl rfl ?_
          refine z_putI (pc2 := 5) rfl rfl rfl rfl rfl rfl t56 (by omega) True.intro ?_
          refine z_iload_n (pc2 := 6) rfl rfl rfl ?_
          refine z_iret rfl rfl ?_
          show zB _ _ _ _ _ _ [_] _ _
          refine z_iret rfl rfl ?_
          exact hK _ _ _ (by repeat (first | exact zFr_rf _ | assumption | refine zFr_a ?_ (by decide) | refine zFr_f ?_ (by decide) | refine zFr_n ?_ (by omega) | refine zFr_h ?_ (by omega) | refine zFr_tok ?_ (by omega)))
        ·
          refine z_iload (pc2 := 45) rfl rfl rfl ?_
          refine z_i2l (pc2 := 46) rfl rfl (by omega) ?_
          refine z_lconst 1 (pc2 := 47) rfl rfl rfl ?_
          refine z_ldc2 (3) (pc2 := 50) rfl rfl rfl ?_
          refine z_callS (y2 := 157) (as := [_, _, _]) (rest := []) (pc2 := 53) rfl rfl rfl rfl ?_
          refine m_in (by omega) (by omega) (by omega) (fun e9 e9a e9b e9c => ?_)
          show zB _ _ _ _ _ _ [_] _ _
          refine z_if_ne (t := 62) (pc2 := 56) rfl rfl rfl (by omega) (fun c10 => ?_) (fun c10 => ?_)
          ·
            refine z_aload_n (pc2 := 63) rfl rfl rfl ?_
            refine z_iload_n (pc2 := 64) rfl rfl rfl ?_
            refine z_callV (y2 := 197) (as := [_]) (rest := []) (pc2 := 67) rfl rfl rfl rfl t56 rfl ?_
            refine m_bars hT (by omega) (fun w11 Iw11 Gw11 fw11 => ?_)
            replace fw11 := zFr_tr (I := I) (by repeat (first | exact zFr_rf _ | assumption | refine zFr_a ?_ (by decide) | refine zFr_f ?_ (by decide) | refine zFr_n ?_ (by omega) | refine zFr_h ?_ (by omega) | refine zFr_tok ?_ (by omega))) fw11
            show zB _ _ _ _ _ _ [_] _ _
            refine z_istore (lv2 := [(6, _), (0, _), (1, _), (2, _), (3, _), (4, _), (5, _)]) (pc2 := 69) rfl rfl rfl rfl ?_
            refine z_iload (pc2 := 71) rfl rfl rfl ?_
            refine z_if_any (t := 77) (pc2 := 74) rfl rfl rfl ?_ ?_
            ·
              refine z_aload_n (pc2 := 78) rfl rfl rfl ?_
              refine z_iload_n (pc2 := 79) rfl rfl rfl ?_
              refine z_callV (y2 := 163) (as := [_]) (rest := []) (pc2 := 82) rfl rfl rfl rfl t56 rfl ?_
              refine z_inl ?_
              refine z_lv (lv2 := [(0, _), (1, _)]) ⟨rfl, rfl, trivial⟩ ?_
              refine z_iconst (pc2 := 1) rfl rfl ?_
              refine z_aload_n (pc2 := 2) rfl rfl rfl ?_
              refine z_getI (pc2 := 5) 0 rfl rfl rfl rfl rfl t56 ?_
              intro v12 e12 r12 k12
              clear e12
              replace k12 : (0 : Int) ≤ v12 ∧ v12 ≤ 1 := k12; clear r12
              refine z_imul (pc2 := 6) rfl rfl ?_
              refine z_iload_n (pc2 := 7) rfl rfl rfl ?_
              refine z_iadd (pc2 := 8) rfl rfl ?_
              refine z_iret rfl rfl ?_
              show zB _ _ _ _ _ _ [_] _ _
              refine z_istore (lv2 := [(7, _), (6, _), (0, _), (1, _), (2, _), (3, _), (4, _), (5, _)]) (pc2 := 84) rfl rfl rfl rfl ?_
              refine z_aload_n (pc2 := 85) rfl rfl rfl ?_
              refine z_getP (pc2 := 88) rfl rfl rfl rfl t56 ?_
              intro p13 p13e p13k; replace p13k : p13 = some 71 := p13k; clear p13e; subst p13k
              refine z_iload (pc2 := 90) rfl rfl rfl ?_
              refine z_iload_n (pc2 := 91) rfl rfl rfl ?_
              refine z_iast (pc2 := 92) rfl rfl t71 (by omega) (by omega) (by decide) (by omega) True.intro ?_
              refine z_aload_n (pc2 := 93) rfl rfl rfl ?_
              refine z_getP (pc2 := 96) rfl rfl rfl rfl t56 ?_
              intro p14 p14e p14k; replace p14k : p14 = some 72 := p14k; clear p14e; subst p14k
              refine z_iload (pc2 := 98) rfl rfl rfl ?_
              refine z_iload_n (pc2 := 99) rfl rfl rfl ?_
              refine z_iast (pc2 := 100) rfl rfl t72 (by omega) (by omega) (by decide) (by omega) True.intro ?_
              refine z_aload_n (pc2 := 101) rfl rfl rfl ?_
              refine z_getP (pc2 := 104) rfl rfl rfl rfl t56 ?_
              intro p15 p15e p15k; replace p15k : p15 = some 73 := p15k; clear p15e; subst p15k
              refine z_iload (pc2 := 106) rfl rfl rfl ?_
              refine z_iload (pc2 := 108) rfl rfl rfl ?_
              refine z_iast (pc2 := 109) rfl rfl t73 (by omega) (by omega) (by decide) (by omega) True.intro ?_
              refine z_aload_n (pc2 := 110) rfl rfl rfl ?_
              refine z_getP (pc2 := 113) rfl rfl rfl rfl t56 ?_
              intro p16 p16e p16k; replace p16k : p16 = some 74 := p16k; clear p16e; subst p16k
              refine z_iload (pc2 := 115) rfl rfl rfl ?_
              refine z_iload (pc2 := 117) rfl rfl rfl ?_
              refine z_iast (pc2 := 118) rfl rfl t74 (by omega) (by omega) (by decide) (by omega) (by show (0 : Int) ≤ _ ∧ _ ≤ 3; omega) ?_
              refine z_aload_n (pc2 := 119) rfl rfl rfl ?_
              refine z_iconst (pc2 := 120) rfl rfl ?_
              refine z_callV (y2 := 198) (as := [_]) (rest := []) (pc2 := 123) rfl rfl rfl rfl t56 rfl ?_
              refine z_inl ?_
              refine z_lv (lv2 := [(0, _), (1, _)]) ⟨rfl, rfl, trivial⟩ ?_
              refine z_aload_n (pc2 := 1) rfl rfl rfl ?_
              refine z_callV (y2 := 168) (as := []) (rest := []) (pc2 := 4) rfl rfl rfl rfl t56 rfl ?_
              refine z_inl ?_
              refine z_lv (lv2 := [(0, _)]) ⟨rfl, trivial⟩ ?_
              refine z_aload_n (pc2 := 1) rfl rfl rfl ?_
              refine z_getP (pc2 := 4) rfl rfl rfl rfl t56 ?_
              intro p17 p17e p17k; replace p17k : p17 = some 59 := p17k; clear p17e; subst p17k
              refine z_aload_n (pc2 := 5) rfl rfl rfl ?_
              refine z_getI (pc2 := 8) 0 rfl rfl rfl rfl rfl t56 ?_
              intro v18 e18 r18 k18
              clear e18
              replace k18 : (0 : Int) ≤ v18 ∧ v18 ≤ 1 := k18; clear r18
              refine z_iconst (pc2 := 9) rfl rfl ?_
              refine z_bast (pc2 := 10) rfl rfl t59 (by omega) (by omega) (by decide) (by omega) True.intro ?_
              refine z_ret rfl rfl ?_
              show zB _ _ _ _ _ _ [] _ _
              refine z_aload_n (pc2 := 5) rfl rfl rfl ?_
              refine z_iload_n (pc2 := 6) rfl rfl rfl ?_
              refine z_callV (y2 := 158) (as := [_]) (rest := []) (pc2 := 9) rfl rfl rfl rfl t56 rfl ?_
              refine z_inl ?_
              refine z_lv (lv2 := [(0, _), (1, _)]) ⟨rfl, rfl, trivial⟩ ?_
              refine z_aload_n (pc2 := 1) rfl rfl rfl ?_
              refine z_iconst (pc2 := 2) rfl rfl ?_
              refine z_putI (pc2 := 5) rfl rfl rfl rfl rfl rfl t56 (by omega) True.intro ?_
              refine z_iload_n (pc2 := 6) rfl rfl rfl ?_
              refine z_iret rfl rfl ?_
              show zB _ _ _ _ _ _ [_] _ _
              refine z_iret rfl rfl ?_
              show zB _ _ _ _ _ _ [_] _ _
              refine z_iret rfl rfl ?_
              exact hK _ _ _ (by repeat (first | exact zFr_rf _ | assumption | refine zFr_a ?_ (by decide) | refine zFr_f ?_ (by decide) | refine zFr_n ?_ (by omega) | refine zFr_h ?_ (by omega) | refine zFr_tok ?_ (by omega)))
            ·
              refine z_iload (pc2 := 76) rfl rfl rfl ?_
              refine z_iret rfl rfl ?_
              exact hK _ _ _ (by repeat (first | exact zFr_rf _ | assumption | refine zFr_a ?_ (by decide) | refine zFr_f ?_ (by decide) | refine zFr_n ?_ (by omega) | refine zFr_h ?_ (by omega) | refine zFr_tok ?_ (by omega)))
          ·
            refine z_aload_n (pc2 := 57) rfl rfl rfl ?_
            refine z_iconst (pc2 := 58) rfl rfl ?_
            refine z_callV (y2 := 159) (as := [_]) (rest := []) (pc2 := 61) rfl rfl rfl rfl t56 rfl ?_
            refine z_inl ?_
            refine z_lv (lv2 := [(0, _), (1, _)]) ⟨rfl, rfl, trivial⟩ ?_
            refine z_aload_n (pc2 := 1) rfl rfl rfl ?_
            refine z_iload_n (pc2 := 2) rfl rfl rfl ?_
            refine z_putI (pc2 := 5) rfl rfl rfl rfl rfl rfl t56 (by omega) True.intro ?_
            refine z_iload_n (pc2 := 6) rfl rfl rfl ?_
            refine z_iret rfl rfl ?_
            show zB _ _ _ _ _ _ [_] _ _
            refine z_iret rfl rfl ?_
            exact hK _ _ _ (by repeat (first | exact zFr_rf _ | assumption | refine zFr_a ?_ (by decide) | refine zFr_f ?_ (by decide) | refine zFr_n ?_ (by omega) | refine zFr_h ?_ (by omega) | refine zFr_tok ?_ (by omega)))
set_option maxHeartbeats 8000000 in
theorem m_kern {L : Nat} {xs : Nat → Int32} {n sl : Nat} {T : Nat → zT} {I : Nat → Nat → Int} {P : Nat → Nat → Option Nat} {G : Nat → Nat → Int} {K : List zV → zH → Prop} {a b c d : Int} (hT : ∀ a, 56 ≤ a → a ≤ 90 → T a = zFix a) (ha : zR a) (hb : zR b) (hc : zR c) (hd : zR d) (hK : ∀ e I2 G2, zFr I I2 → K [.inl e] (n, sl, T, I2, P, G2)) : zX zMd L xs 201 [.inr (.inl (some 56)), .inl a, .inl b, .inl c, .inl d] (n, sl, T, I, P, G) K := by
  have t56 : T 56 = (1, 12, [1]) := hT 56 (by decide) (by decide)
  have t59 : T 59 = (2, 2, [2, 0]) := hT 59 (by decide) (by decide)
  have t61 : T 61 = (2, 0, [8, 2]) := hT 61 (by decide) (by decide)
  have t63 : T 63 = (2, 0, [192, 2]) := hT 63 (by decide) (by decide)
  have t64 : T 64 = (2, 0, [4608, 0]) := hT 64 (by decide) (by decide)
  refine z_inl ?_
  refine z_lv (lv2 := [(0, _), (1, _), (2, _), (3, _), (4, _)]) ⟨rfl, rfl, rfl, rfl, rfl, trivial⟩ ?_
  refine z_iload_n (pc2 := 1) rfl rfl rfl ?_
  refine z_callS (y2 := 164) (as := [_]) (rest := []) (pc2 := 4) rfl rfl rfl rfl ?_
  refine z_inl ?_
  refine z_lv (lv2 := [(0, _)]) ⟨rfl, trivial⟩ ?_
  refine z_iload_n (pc2 := 1) rfl rfl rfl ?_
  refine z_i2l (pc2 := 2) rfl rfl (by omega) ?_
  refine z_lconst 0 (pc2 := 3) rfl rfl rfl ?_
  refine z_ldc2 (3) (pc2 := 6) rfl rfl rfl ?_
  refine z_callS (y2 := 157) (as := [_, _, _]) (rest := []) (pc2 := 9) rfl rfl rfl rfl ?_
  refine m_in (by omega) (by omega) (by omega) (fun e1 e1a e1b e1c => ?_)
  show zB _ _ _ _ _ _ [_] _ _
  refine z_zret rfl rfl (by omega) ?_
  show zB _ _ _ _ _ _ [_] _ _
  refine z_if_eq (t := 22) (pc2 := 7) rfl rfl rfl (by omega) (fun c2 => ?_) (fun c2 => ?_)
  ·
    refine z_aload_n (pc2 := 23) rfl rfl rfl ?_
    refine z_iconst (pc2 := 24) rfl rfl ?_
    refine z_callV (y2 := 159) (as := [_]) (rest := []) (pc2 := 27) rfl rfl rfl rfl t56 rfl ?_
    refine z_inl ?_
    refine z_lv (lv2 := [(0, _), (1, _)]) ⟨rfl, rfl, trivial⟩ ?_
    refine z_aload_n (pc2 := 1) rfl rfl rfl ?_
    refine z_iload_n (pc2 := 2) rfl rfl rfl ?_
    refine z_putI (pc2 := 5) rfl rfl rfl rfl rfl rfl t56 (by omega) True.intro ?_
    refine z_iload_n (pc2 := 6) rfl rfl rfl ?_
    refine z_iret rfl rfl ?_
    show zB _ _ _ _ _ _ [_] _ _
    refine z_iret rfl rfl ?_
    exact hK _ _ _ (by repeat (first | exact zFr_rf _ | assumption | refine zFr_a ?_ (by decide) | refine zFr_f ?_ (by decide) | refine zFr_n ?_ (by omega) | refine zFr_h ?_ (by omega) | refine zFr_tok ?_ (by omega)))
  ·
    refine z_iload (pc2 := 9) rfl rfl rfl ?_
    refine z_i2l (pc2 := 10) rfl rfl (by omega) ?_
    refine z_ldc2 (-9) (pc2 := 13) rfl rfl rfl ?_
    refine z_ldc2 (9) (pc2 := 16) rfl rfl rfl ?_
    refine z_callS (y2 := 157) (as := [_, _, _]) (rest := []) (pc2 := 19) rfl rfl rfl rfl ?_
    refine m_in (by omega) (by omega) (by omega) (fun e3 e3a e3b e3c => ?_)
    show zB _ _ _ _ _ _ [_] _ _
    refine z_if_ne (t := 28) (pc2 := 22) rfl rfl rfl (by omega) (fun c4 => ?_) (fun c4 => ?_)
    ·
      refine z_aload_n (pc2 := 29) rfl rfl rfl ?_
      refine z_iload_n (pc2 := 30) rfl rfl rfl ?_
      refine z_callV (y2 := 197) (as := [_]) (rest := []) (pc2 := 33) rfl rfl rfl rfl t56 rfl ?_
      refine m_bars hT (by omega) (fun w5 Iw5 Gw5 fw5 => ?_)
      replace fw5 := zFr_tr (I := I) (by repeat (first | exact zFr_rf _ | assumption | refine zFr_a ?_ (by decide) | refine zFr_f ?_ (by decide) | refine zFr_n ?_ (by omega) | refine zFr_h ?_ (by omega) | refine zFr_tok ?_ (by omega))) fw5
      show zB _ _ _ _ _ _ [_] _ _
      refine z_istore (lv2 := [(5, _), (0, _), (1, _), (2, _), (3, _), (4, _)]) (pc2 := 35) rfl rfl rfl rfl ?_
      refine z_iload (pc2 := 37) rfl rfl rfl ?_
      refine z_if_any (t := 43) (pc2 := 40) rfl rfl rfl ?_ ?_
      ·
        refine z_aload_n (pc2 := 44) rfl rfl rfl ?_
        refine z_iload_n (pc2 := 45) rfl rfl rfl ?_
        refine z_callV (y2 := 163) (as := [_]) (rest := []) (pc2 := 48) rfl rfl rfl rfl t56 rfl ?_
        refine z_inl ?_
        refine z_lv (lv2 := [(0, _), (1, _)]) ⟨rfl, rfl, trivial⟩ ?_
        refine z_iconst (pc2 := 1) rfl rfl ?_
        refine z_aload_n (pc2 := 2) rfl rfl rfl ?_
        refine z_getI (pc2 := 5) 0 rfl rfl rfl rfl rfl t56 ?_
        intro v6 e6 r6 k6
        clear e6
        replace k6 : (0 : Int) ≤ v6 ∧ v6 ≤ 1 := k6; clear r6
        refine z_imul (pc2 := 6) rfl rfl ?_
        refine z_iload_n (pc2 := 7) rfl rfl rfl ?_
        refine z_iadd (pc2 := 8) rfl rfl ?_
        refine z_iret rfl rfl ?_
        show zB _ _ _ _ _ _ [_] _ _
        refine z_istore (lv2 := [(6, _), (5, _), (0, _), (1, _), (2, _), (3, _), (4, _)]) (pc2 := 50) rfl rfl rfl rfl ?_
        refine z_iload_n (pc2 := 51) rfl rfl rfl ?_
        refine z_i2l (pc2 := 52) rfl rfl (by omega) ?_
        refine z_lconst 0 (pc2 := 53) rfl rfl rfl ?_
        refine z_aload_n (pc2 := 54) rfl rfl rfl ?_
        refine z_getP (pc2 := 57) rfl rfl rfl rfl t56 ?_
        intro p7 p7e p7k; replace p7k : p7 = some 61 := p7k; clear p7e; subst p7k
        refine z_iload (pc2 := 59) rfl rfl rfl ?_
        refine z_iald (pc2 := 60) rfl rfl t61 (by omega) (by omega) (by decide) ?_
        intro v8 e8 r8 k8
        clear e8
        replace k8 : (-1 : Int) ≤ v8 ∧ v8 ≤ 24 := k8; clear r8
        refine z_iconst (pc2 := 61) rfl rfl ?_
        refine z_isub (pc2 := 62) rfl rfl ?_
        refine z_i2l (pc2 := 63) rfl rfl (by omega) ?_
        refine z_callS (y2 := 157) (as := [_, _, _]) (rest := []) (pc2 := 66) rfl rfl rfl rfl ?_
        refine m_in (by omega) (by omega) (by omega) (fun e9 e9a e9b e9c => ?_)
        show zB _ _ _ _ _ _ [_] _ _
        refine z_if_ne (t := 75) (pc2 := 69) rfl rfl rfl (by omega) (fun c10 => ?_) (fun c10 => ?_)
        ·
          refine z_aload_n (pc2 := 76) rfl rfl rfl ?_
          refine z_getP (pc2 := 79) rfl rfl rfl rfl t56 ?_
          intro p11 p11e p11k; replace p11k : p11 = some 63 := p11k; clear p11e; subst p11k
          refine z_bipush (pc2 := 81) rfl rfl (by decide) ?_
          refine z_iload (pc2 := 83) rfl rfl rfl ?_
          refine z_imul (pc2 := 84) rfl rfl ?_
          refine z_iload_n (pc2 := 85) rfl rfl rfl ?_
          refine z_iadd (pc2 := 86) rfl rfl ?_
          refine z_iald (pc2 := 87) rfl rfl t63 (by omega) (by omega) (by decide) ?_
          intro v12 e12 r12 k12
          clear e12
          replace k12 : (-1 : Int) ≤ v12 ∧ v12 ≤ 24 := k12; clear r12
          refine z_istore (lv2 := [(7, _), (6, _), (5, _), (0, _), (1, _), (2, _), (3, _), (4, _)]) (pc2 := 89) rfl rfl rfl rfl ?_
          refine z_iload (pc2 := 91) rfl rfl rfl ?_
          refine z_if_lt (t := 108) (pc2 := 94) rfl rfl rfl (by omega) (fun c13 => ?_) (fun c13 => ?_)
          ·
            refine z_aload_n (pc2 := 109) rfl rfl rfl ?_
            refine z_iload (pc2 := 111) rfl rfl rfl ?_
            refine z_if_ge (t := 118) (pc2 := 114) rfl rfl rfl (by omega) (fun c14 => by exfalso; omega) (fun c14 => ?_)
            refine z_iconst (pc2 := 115) rfl rfl ?_
            refine z_goto (pc2 := 119) rfl rfl ?_
            refine z_callV (y2 := 160) (as := [_]) (rest := []) (pc2 := 122) rfl rfl rfl rfl t56 rfl ?_
            refine z_inl ?_
            refine z_lv (lv2 := [(0, _), (1, _)]) ⟨rfl, rfl, trivial⟩ ?_
            refine z_aload_n (pc2 := 1) rfl rfl rfl ?_
            refine z_dup (pc2 := 2) rfl rfl rfl ?_
            refine z_getI (pc2 := 5) 0 rfl rfl rfl rfl rfl t56 ?_
            intro v15 e15 r15 k15
            clear e15
            clear k15
            refine z_iconst (pc2 := 6) rfl rfl ?_
            refine z_iadd (pc2 := 7) rfl rfl ?_
            refine z_putI_any (pc2 := 10) rfl rfl rfl rfl rfl rfl t56 (fun _ _ => True.intro) (fun u16 u16r => ?_); clear u16r
            refine z_aload_n (pc2 := 11) rfl rfl rfl ?_
            refine z_bipush (pc2 := 13) rfl rfl (by decide) ?_
            refine z_iload_n (pc2 := 14) rfl rfl rfl ?_
            refine z_isub (pc2 := 15) rfl rfl ?_
            refine z_putI (pc2 := 18) rfl rfl rfl rfl rfl rfl t56 (by omega) True.intro ?_
            refine z_aload_n (pc2 := 19) rfl rfl rfl ?_
            refine z_getI (pc2 := 22) 0 rfl rfl rfl rfl rfl t56 ?_
            intro v17 e17 r17 k17
            clear e17
            clear k17
            refine z_iret rfl rfl ?_
            show zB _ _ _ _ _ _ [_] _ _
            refine z_iret rfl rfl ?_
            exact hK _ _ _ (by repeat (first | exact zFr_rf _ | assumption | refine zFr_a ?_ (by decide) | refine zFr_f ?_ (by decide) | refine zFr_n ?_ (by omega) | refine zFr_h ?_ (by omega) | refine zFr_tok ?_ (by omega)))
          ·
            refine z_iload_n (pc2 := 95) rfl rfl rfl ?_
            refine z_i2l (pc2 := 96) rfl rfl (by omega) ?_
            refine z_lconst 0 (pc2 := 97) rfl rfl rfl ?_
            refine z_iload (pc2 := 99) rfl rfl rfl ?_
            refine z_iconst (pc2 := 100) rfl rfl ?_
            refine z_isub (pc2 := 101) rfl rfl ?_
            refine z_i2l (pc2 := 102) rfl rfl (by omega) ?_
            refine z_callS (y2 := 157) (as := [_, _, _]) (rest := []) (pc2 := 105) rfl rfl rfl rfl ?_
            refine m_in (by omega) (by omega) (by omega) (fun e18 e18a e18b e18c => ?_)
            show zB _ _ _ _ _ _ [_] _ _
            refine z_if_ne (t := 123) (pc2 := 108) rfl rfl rfl (by omega) (fun c19 => ?_) (fun c19 => ?_)
            ·
              refine z_aload_n (pc2 := 124) rfl rfl rfl ?_
              refine z_getP (pc2 := 127) rfl rfl rfl rfl t56 ?_
              intro p20 p20e p20k; replace p20k : p20 = some 64 := p20k; clear p20e; subst p20k
              refine z_bipush (pc2 := 129) rfl rfl (by decide) ?_
              refine z_bipush (pc2 := 131) rfl rfl (by decide) ?_
              refine z_iload (pc2 := 133) rfl rfl rfl ?_
              refine z_imul (pc2 := 134) rfl rfl ?_
              refine z_iload_n (pc2 := 135) rfl rfl rfl ?_
              refine z_iadd (pc2 := 136) rfl rfl ?_
              refine z_imul (pc2 := 137) rfl rfl ?_
              refine z_iload_n (pc2 := 138) rfl rfl rfl ?_
              refine z_iadd (pc2 := 139) rfl rfl ?_
              refine z_iload (pc2 := 141) rfl rfl rfl ?_
              refine z_iast (pc2 := 142) rfl rfl t64 (by omega) (by omega) (by decide) (by omega) True.intro ?_
              refine z_aload_n (pc2 := 143) rfl rfl rfl ?_
              refine z_iconst (pc2 := 144) rfl rfl ?_
              refine z_callV (y2 := 198) (as := [_]) (rest := []) (pc2 := 147) rfl rfl rfl rfl t56 rfl ?_
              refine z_inl ?_
              refine z_lv (lv2 := [(0, _), (1, _)]) ⟨rfl, rfl, trivial⟩ ?_
              refine z_aload_n (pc2 := 1) rfl rfl rfl ?_
              refine z_callV (y2 := 168) (as := []) (rest := []) (pc2 := 4) rfl rfl rfl rfl t56 rfl ?_
              refine z_inl ?_
              refine z_lv (lv2 := [(0, _)]) ⟨rfl, trivial⟩ ?_
              refine z_aload_n (pc2 := 1) rfl rfl rfl ?_
              refine z_getP (pc2 := 4) rfl rfl rfl rfl t56 ?_
              intro p21 p21e p21k; replace p21k : p21 = some 59 := p21k; clear p21e; subst p21k
              refine z_aload_n (pc2 := 5) rfl rfl rfl ?_
              refine z_getI (pc2 := 8) 0 rfl rfl rfl rfl rfl t56 ?_
              intro v22 e22 r22 k22
              clear e22
              replace k22 : (0 : Int) ≤ v22 ∧ v22 ≤ 1 := k22; clear r22
              refine z_iconst (pc2 := 9) rfl rfl ?_
              refine z_bast (pc2 := 10) rfl rfl t59 (by omega) (by omega) (by decide) (by omega) True.intro ?_
              refine z_ret rfl rfl ?_
              show zB _ _ _ _ _ _ [] _ _
              refine z_aload_n (pc2 := 5) rfl rfl rfl ?_
              refine z_iload_n (pc2 := 6) rfl rfl rfl ?_
              refine z_callV (y2 := 158) (as := [_]) (rest := []) (pc2 := 9) rfl rfl rfl rfl t56 rfl ?_
              refine z_inl ?_
              refine z_lv (lv2 := [(0, _), (1, _)]) ⟨rfl, rfl, trivial⟩ ?_
              refine z_aload_n (pc2 := 1) rfl rfl rfl ?_
              refine z_iconst (pc2 := 2) rfl rfl ?_
              refine z_putI (pc2 := 5) rfl rfl rfl rfl rfl rfl t56 (by omega) True.intro ?_
              refine z_iload_n (pc2 := 6) rfl rfl rfl ?_
              refine z_iret rfl rfl ?_
              show zB _ _ _ _ _ _ [_] _ _
              refine z_iret rfl rfl ?_
              show zB _ _ _ _ _ _ [_] _ _
              refine z_iret rfl rfl ?_
              exact hK _ _ _ (by repeat (first | exact zFr_rf _ | assumption | refine zFr_a ?_ (by decide) | refine zFr_f ?_ (by decide) | refine zFr_n ?_ (by omega) | refine zFr_h ?_ (by omega) | refine zFr_tok ?_ (by omega)))
            ·
              refine z_aload_n (pc2 := 109) rfl rfl rfl ?_
              refine z_iload (pc2 := 111) rfl rfl rfl ?_
              refine z_if_ge (t := 118) (pc2 := 114) rfl rfl rfl (by omega) (fun c23 => ?_) (fun c23 => by exfalso; omega)
              refine z_iconst (pc2 := 119) rfl rfl ?_
              refine z_callV (y2 := 160) (as := [_]) (rest := []) (pc2 := 122) rfl rfl rfl rfl t56 rfl ?_
              refine z_inl ?_
              refine z_lv (lv2 := [(0, _), (1, _)]) ⟨rfl, rfl, trivial⟩ ?_
              refine z_aload_n (pc2 := 1) rfl rfl rfl ?_
              refine z_dup (pc2 := 2) rfl rfl rfl ?_
              refine z_getI (pc2 := 5) 0 rfl rfl rfl rfl rfl t56 ?_
              intro v24 e24 r24 k24
              clear e24
              clear k24
              refine z_iconst (pc2 := 6) rfl rfl ?_
              refine z_iadd (pc2 := 7) rfl rfl ?_
              refine z_putI_any (pc2 := 10) rfl rfl rfl rfl rfl rfl t56 (fun _ _ => True.intro) (fun u25 u25r => ?_); clear u25r
              refine z_aload_n (pc2 := 11) rfl rfl rfl ?_
              refine z_bipush (pc2 := 13) rfl rfl (by decide) ?_
              refine z_iload_n (pc2 := 14) rfl rfl rfl ?_
              refine z_isub (pc2 := 15) rfl rfl ?_
              refine z_putI (pc2 := 18) rfl rfl rfl rfl rfl rfl t56 (by omega) True.intro ?_
              refine z_aload_n (pc2 := 19) rfl rfl rfl ?_
              refine z_getI (pc2 := 22) 0 rfl rfl rfl rfl rfl t56 ?_
              intro v26 e26 r26 k26
              clear e26
              clear k26
              refine z_iret rfl rfl ?_
              show zB _ _ _ _ _ _ [_] _ _
              refine z_iret rfl rfl ?_
              exact hK _ _ _ (by repeat (first | exact zFr_rf _ | assumption | refine zFr_a ?_ (by decide) | refine zFr_f ?_ (by decide) | refine zFr_n ?_ (by omega) | refine zFr_h ?_ (by omega) | refine zFr_tok ?_ (by omega)))
        ·
          refine z_aload_n (pc2 := 70) rfl rfl rfl ?_
          refine z_iconst (pc2 := 71) rfl rfl ?_
          refine z_callV (y2 := 160) (as := [_]) (rest := []) (pc2 := 74) rfl rfl rfl rfl t56 rfl ?_
          refine z_inl ?_
          refine z_lv (lv2 := [(0, _), (1, _)]) ⟨rfl, rfl, trivial⟩ ?_
          refine z_aload_n (pc2 := 1) rfl rfl rfl ?_
          refine z_dup (pc2 := 2) rfl rfl rfl ?_
          refine z_getI (pc2 := 5) 0 rfl rfl rfl rfl rfl t56 ?_
          intro v27 e27 r27 k27
          clear e27
          clear k27
          refine z_iconst (pc2 := 6) rfl rfl ?_
          refine z_iadd (pc2 := 7) rfl rfl ?_
          refine z_putI_any (pc2 := 10) rfl rfl rfl rfl rfl rfl t56 (fun _ _ => True.intro) (fun u28 u28r => ?_); clear u28r
          refine z_aload_n (pc2 := 11) rfl rfl rfl ?_
          refine z_bipush (pc2 := 13) rfl rfl (by decide) ?_
          refine z_iload_n (pc2 := 14) rfl rfl rfl ?_
          refine z_isub (pc2 := 15) rfl rfl ?_
          refine z_putI (pc2 := 18) rfl rfl rfl rfl rfl rfl t56 (by omega) True.intro ?_
          refine z_aload_n (pc2 := 19) rfl rfl rfl ?_
          refine z_getI (pc2 := 22) 0 rfl rfl rfl rfl rfl t56 ?_
          intro v29 e29 r29 k29
          clear e29
          clear k29
          refine z_iret rfl rfl ?_
          show zB _ _ _ _ _ _ [_] _ _
          refine z_iret rfl rfl ?_
          exact hK _ _ _ (by repeat (first | exact zFr_rf _ | assumption | refine zFr_a ?_ (by decide) | refine zFr_f ?_ (by decide) | refine zFr_n ?_ (by omega) | refine zFr_h ?_ (by omega) | refine zFr_tok ?_ (by omega)))
      ·
        refine z_iload (pc2 := 42) rfl rfl rfl ?_
        refine z_iret rfl rfl ?_
        exact hK _ _ _ (by repeat (first | exact zFr_rf _ | assumption | refine zFr_a ?_ (by decide) | refine zFr_f ?_ (by decide) | refine zFr_n ?_ (by omega) | refine zFr_h ?_ (by omega) | refine zFr_tok ?_ (by omega)))
    ·
      refine z_aload_n (pc2 := 23) rfl rfl rfl ?_
      refine z_iconst (pc2 := 24) rfl rfl ?_
      refine z_callV (y2 := 159) (as := [_]) (rest := []) (pc2 := 27) rfl rfl rfl rfl t56 rfl ?_
      refine z_inl ?_
      refine z_lv (lv2 := [(0, _), (1, _)]) ⟨rfl, rfl, trivial⟩ ?_
      refine z_aload_n (pc2 := 1) rfl rfl rfl ?_
      refine z_iload_n (pc2 := 2) rfl rfl rfl ?_
      refine z_putI (pc2 := 5) rfl rfl rfl rfl rfl rfl t56 (by omega) True.intro ?_
      refine z_iload_n (pc2 := 6) rfl rfl rfl ?_
      refine z_iret rfl rfl ?_
      show zB _ _ _ _ _ _ [_] _ _
      refine z_iret rfl rfl ?_
      exact hK _ _ _ (by repeat (first | exact zFr_rf _ | assumption | refine zFr_a ?_ (by decide) | refine zFr_f ?_ (by decide) | refine zFr_n ?_ (by omega) | refine zFr_h ?_ (by omega) | refine zFr_tok ?_ (by omega)))
set_option maxHeartbeats 8000000 in
theorem m_buy {L : Nat} {xs : Nat → Int32} {n sl : Nat} {T : Nat → zT} {I : Nat → Nat → Int} {P : Nat → Nat → Option Nat} {G : Nat → Nat → Int} {K : List zV → zH → Prop} {a b c d : Int} (hT : ∀ a, 56 ≤ a → a ≤ 90 → T a = zFix a) (ha : zR a) (hb : zR b) (hc : zR c) (hd : zR d) (hK : ∀ e I2 G2, zFr I I2 → K [.inl e] (n, sl, T, I2, P, G2)) : zX zMd L xs 206 [.inr (.inl (some 56)), .inl a, .inl b, .inl c, .inl d] (n, sl, T, I, P, G) K := by
  have t56 : T 56 = (1, 12, [1]) := hT 56 (by decide) (by decide)
  have t57 : T 57 = (2, 0, [112200, 1]) := hT 57 (by decide) (by decide)
  have t59 : T 59 = (2, 2, [2, 0]) := hT 59 (by decide) (by decide)
  have t75 : T 75 = (2, 0, [8, 0]) := hT 75 (by decide) (by decide)
  have t76 : T 76 = (2, 0, [2, 0]) := hT 76 (by decide) (by decide)
  refine z_inl ?_
  refine z_lv (lv2 := [(0, _), (1, _), (2, _), (3, _), (4, _)]) ⟨rfl, rfl, rfl, rfl, rfl, trivial⟩ ?_
  refine z_iload_n (pc2 := 1) rfl rfl rfl ?_
  refine z_callS (y2 := 164) (as := [_]) (rest := []) (pc2 := 4) rfl rfl rfl rfl ?_
  refine z_inl ?_
  refine z_lv (lv2 := [(0, _)]) ⟨rfl, trivial⟩ ?_
  refine z_iload_n (pc2 := 1) rfl rfl rfl ?_
  refine z_i2l (pc2 := 2) rfl rfl (by omega) ?_
  refine z_lconst 0 (pc2 := 3) rfl rfl rfl ?_
  refine z_ldc2 (3) (pc2 := 6) rfl rfl rfl ?_
  refine z_callS (y2 := 157) (as := [_, _, _]) (rest := []) (pc2 := 9) rfl rfl rfl rfl ?_
  refine m_in (by omega) (by omega) (by omega) (fun e1 e1a e1b e1c => ?_)
  show zB _ _ _ _ _ _ [_] _ _
  refine z_zret rfl rfl (by omega) ?_
  show zB _ _ _ _ _ _ [_] _ _
  refine z_if_eq (t := 32) (pc2 := 7) rfl rfl rfl (by omega) (fun c2 => ?_) (fun c2 => ?_)
  ·
    refine z_aload_n (pc2 := 33) rfl rfl rfl ?_
    refine z_iconst (pc2 := 34) rfl rfl ?_
    refine z_callV (y2 := 159) (as := [_]) (rest := []) (pc2 := 37) rfl rfl rfl rfl t56 rfl ?_
    refine z_inl ?_
    refine z_lv (lv2 := [(0, _), (1, _)]) ⟨rfl, rfl, trivial⟩ ?_
    refine z_aload_n (pc2 := 1) rfl rfl rfl ?_
    refine z_iload_n (pc2 := 2) rfl rfl rfl ?_
    refine z_putI (pc2 := 5) rfl rfl rfl rfl rfl rfl t56 (by omega) True.intro ?_
    refine z_iload_n (pc2 := 6) rfl rfl rfl ?_
    refine z_iret rfl rfl ?_
    show zB _ _ _ _ _ _ [_] _ _
    refine z_iret rfl rfl ?_
    exact hK _ _ _ (by repeat (first | exact zFr_rf _ | assumption | refine zFr_a ?_ (by decide) | refine zFr_f ?_ (by decide) | refine zFr_n ?_ (by omega) | refine zFr_h ?_ (by omega) | refine zFr_tok ?_ (by omega)))
  ·
    refine z_iload_n (pc2 := 8) rfl rfl rfl ?_
    refine z_i2l (pc2 := 9) rfl rfl (by omega) ?_
    refine z_lconst 0 (pc2 := 10) rfl rfl rfl ?_
    refine z_ldc2 (4) (pc2 := 13) rfl rfl rfl ?_
    refine z_callS (y2 := 157) (as := [_, _, _]) (rest := []) (pc2 := 16) rfl rfl rfl rfl ?_
    refine m_in (by omega) (by omega) (by omega) (fun e3 e3a e3b e3c => ?_)
    show zB _ _ _ _ _ _ [_] _ _
    refine z_if_eq (t := 32) (pc2 := 19) rfl rfl rfl (by omega) (fun c4 => ?_) (fun c4 => ?_)
    ·
      refine z_aload_n (pc2 := 33) rfl rfl rfl ?_
      refine z_iconst (pc2 := 34) rfl rfl ?_
      refine z_callV (y2 := 159) (as := [_]) (rest := []) (pc2 := 37) rfl rfl rfl rfl t56 rfl ?_
      refine z_inl ?_
      refine z_lv (lv2 := [(0, _), (1, _)]) ⟨rfl, rfl, trivial⟩ ?_
      refine z_aload_n (pc2 := 1) rfl rfl rfl ?_
      refine z_iload_n (pc2 := 2) rfl rfl rfl ?_
      refine z_putI (pc2 := 5) rfl rfl rfl rfl rfl rfl t56 (by omega) True.intro ?_
      refine z_iload_n (pc2 := 6) rfl rfl rfl ?_
      refine z_iret rfl rfl ?_
      show zB _ _ _ _ _ _ [_] _ _
      refine z_iret rfl rfl ?_
      exact hK _ _ _ (by repeat (first | exact zFr_rf _ | assumption | refine zFr_a ?_ (by decide) | refine zFr_f ?_ (by decide) | refine zFr_n ?_ (by omega) | refine zFr_h ?_ (by omega) | refine zFr_tok ?_ (by omega)))
    ·
      refine z_iload (pc2 := 21) rfl rfl rfl ?_
      refine z_i2l (pc2 := 22) rfl rfl (by omega) ?_
      refine z_lconst 0 (pc2 := 23) rfl rfl rfl ?_
      refine z_ldc2 (200) (pc2 := 26) rfl rfl rfl ?_
      refine z_callS (y2 := 157) (as := [_, _, _]) (rest := []) (pc2 := 29) rfl rfl rfl rfl ?_
      refine m_in (by omega) (by omega) (by omega) (fun e5 e5a e5b e5c => ?_)
      show zB _ _ _ _ _ _ [_] _ _
      refine z_if_ne (t := 38) (pc2 := 32) rfl rfl rfl (by omega) (fun c6 => ?_) (fun c6 => ?_)
      ·
        refine z_aload_n (pc2 := 39) rfl rfl rfl ?_
        refine z_getP (pc2 := 42) rfl rfl rfl rfl t56 ?_
        intro p7 p7e p7k; replace p7k : p7 = some 76 := p7k; clear p7e; subst p7k
        refine z_aload_n (pc2 := 43) rfl rfl rfl ?_
        refine z_getI (pc2 := 46) 0 rfl rfl rfl rfl rfl t56 ?_
        intro v8 e8 r8 k8
        clear e8
        replace k8 : (0 : Int) ≤ v8 ∧ v8 ≤ 1 := k8; clear r8
        refine z_iald (pc2 := 47) rfl rfl t76 (by omega) (by omega) (by decide) ?_
        intro v9 e9 r9 k9
        clear e9
        clear k9
        refine z_iload (pc2 := 49) rfl rfl rfl ?_
        refine z_iadd (pc2 := 50) rfl rfl ?_
        refine z_sipush (pc2 := 53) rfl rfl (by decide) ?_
        refine z_icmp_any (t := 63) (pc2 := 56) rfl rfl rfl ?_ ?_
        ·
          refine z_aload_n (pc2 := 64) rfl rfl rfl ?_
          refine z_bipush (pc2 := 66) rfl rfl (by decide) ?_
          refine z_callV (y2 := 159) (as := [_]) (rest := []) (pc2 := 69) rfl rfl rfl rfl t56 rfl ?_
          refine z_inl ?_
          refine z_lv (lv2 := [(0, _), (1, _)]) ⟨rfl, rfl, trivial⟩ ?_
          refine z_aload_n (pc2 := 1) rfl rfl rfl ?_
          refine z_iload_n (pc2 := 2) rfl rfl rfl ?_
          refine z_putI (pc2 := 5) rfl rfl rfl rfl rfl rfl t56 (by omega) True.intro ?_
          refine z_iload_n (pc2 := 6) rfl rfl rfl ?_
          refine z_iret rfl rfl ?_
          show zB _ _ _ _ _ _ [_] _ _
          refine z_iret rfl rfl ?_
          exact hK _ _ _ (by repeat (first | exact zFr_rf _ | assumption | refine zFr_a ?_ (by decide) | refine zFr_f ?_ (by decide) | refine zFr_n ?_ (by omega) | refine zFr_h ?_ (by omega) | refine zFr_tok ?_ (by omega)))
        ·
          refine z_aload_n (pc2 := 57) rfl rfl rfl ?_
          refine z_callV (y2 := 161) (as := []) (rest := []) (pc2 := 60) rfl rfl rfl rfl t56 rfl ?_
          refine z_inl ?_
          refine z_lv (lv2 := [(0, _)]) ⟨rfl, trivial⟩ ?_
          refine z_aload_n (pc2 := 1) rfl rfl rfl ?_
          refine z_getI (pc2 := 4) 0 rfl rfl rfl rfl rfl t56 ?_
          intro v10 e10 r10 k10
          clear e10
          clear k10
          refine z_sipush (pc2 := 7) rfl rfl (by decide) ?_
          refine z_icmp_lt (t := 14) (pc2 := 10) rfl rfl rfl (by omega) (by omega) (fun c11 => ?_) (fun c11 => ?_)
          ·
            refine z_iconst (pc2 := 15) rfl rfl ?_
            refine z_zret rfl rfl (by omega) ?_
            show zB _ _ _ _ _ _ [_] _ _
            refine z_if_eq (t := 70) (pc2 := 63) rfl rfl rfl (by omega) (fun c12 => ?_) (fun c12 => by exfalso; omega)
            refine z_aload_n (pc2 := 71) rfl rfl rfl ?_
            refine z_iload_n (pc2 := 72) rfl rfl rfl ?_
            refine z_iload_n (pc2 := 73) rfl rfl rfl ?_
            refine z_iload_n (pc2 := 74) rfl rfl rfl ?_
            refine z_callV (y2 := 205) (as := [_, _, _]) (rest := []) (pc2 := 77) rfl rfl rfl rfl t56 rfl ?_
            refine m_lacksBox hT (by omega) (by omega) (by omega) (fun w13 w13r w13h => ?_)
            show zB _ _ _ _ _ _ [_] _ _
            refine z_istore (lv2 := [(5, _), (0, _), (1, _), (2, _), (3, _), (4, _)]) (pc2 := 79) rfl rfl rfl rfl ?_
            refine z_iload (pc2 := 81) rfl rfl rfl ?_
            refine z_if_eq (t := 91) (pc2 := 84) rfl rfl rfl (by omega) (fun c14 => ?_) (fun c14 => ?_)
            ·
              refine z_aload_n (pc2 := 92) rfl rfl rfl ?_
              refine z_getP (pc2 := 95) rfl rfl rfl rfl t56 ?_
              intro p15 p15e p15k; replace p15k : p15 = some 76 := p15k; clear p15e; subst p15k
              refine z_aload_n (pc2 := 96) rfl rfl rfl ?_
              refine z_getI (pc2 := 99) 0 rfl rfl rfl rfl rfl t56 ?_
              intro v16 e16 r16 k16
              clear e16
              replace k16 : (0 : Int) ≤ v16 ∧ v16 ≤ 1 := k16; clear r16
              refine z_dup2 (pc2 := 100) rfl rfl rfl rfl ?_
              refine z_iald (pc2 := 101) rfl rfl t76 (by omega) (by omega) (by decide) ?_
              intro v17 e17 r17 k17
              clear e17
              clear k17
              refine z_iload (pc2 := 103) rfl rfl rfl ?_
              refine z_iadd (pc2 := 104) rfl rfl ?_
              refine z_iast_any (pc2 := 105) rfl rfl t76 (by omega) (by omega) (by decide) (fun _ _ => True.intro) (fun u18 u18r => ?_); clear u18r
              refine z_aload_n (pc2 := 106) rfl rfl rfl ?_
              refine z_getP (pc2 := 109) rfl rfl rfl rfl t56 ?_
              intro p19 p19e p19k; replace p19k : p19 = some 75 := p19k; clear p19e; subst p19k
              refine z_aload_n (pc2 := 110) rfl rfl rfl ?_
              refine z_iload_n (pc2 := 111) rfl rfl rfl ?_
              refine z_callV (y2 := 163) (as := [_]) (rest := [_]) (pc2 := 114) rfl rfl rfl rfl t56 rfl ?_
              refine z_inl ?_
              refine z_lv (lv2 := [(0, _), (1, _)]) ⟨rfl, rfl, trivial⟩ ?_
              refine z_iconst (pc2 := 1) rfl rfl ?_
              refine z_aload_n (pc2 := 2) rfl rfl rfl ?_
              refine z_getI (pc2 := 5) 0 rfl rfl rfl rfl rfl t56 ?_
              intro v20 e20 r20 k20
              clear e20
              replace k20 : (0 : Int) ≤ v20 ∧ v20 ≤ 1 := k20; clear r20
              refine z_imul (pc2 := 6) rfl rfl ?_
              refine z_iload_n (pc2 := 7) rfl rfl rfl ?_
              refine z_iadd (pc2 := 8) rfl rfl ?_
              refine z_iret rfl rfl ?_
              show zB _ _ _ _ _ _ [_, _] _ _
              refine z_dup2 (pc2 := 115) rfl rfl rfl rfl ?_
              refine z_iald (pc2 := 116) rfl rfl t75 (by omega) (by omega) (by decide) ?_
              intro v21 e21 r21 k21
              clear e21
              clear k21
              refine z_iload (pc2 := 118) rfl rfl rfl ?_
              refine z_iadd (pc2 := 119) rfl rfl ?_
              refine z_iast_any (pc2 := 120) rfl rfl t75 (by omega) (by omega) (by decide) (fun _ _ => True.intro) (fun u22 u22r => ?_); clear u22r
              refine z_aload_n (pc2 := 121) rfl rfl rfl ?_
              refine z_callV (y2 := 162) (as := []) (rest := []) (pc2 := 124) rfl rfl rfl rfl t56 rfl ?_
              refine z_inl ?_
              refine z_lv (lv2 := [(0, _)]) ⟨rfl, trivial⟩ ?_
              refine z_ldc (56100) (pc2 := 2) rfl rfl rfl ?_
              refine z_aload_n (pc2 := 3) rfl rfl rfl ?_
              refine z_getI (pc2 := 6) 0 rfl rfl rfl rfl rfl t56 ?_
              intro v23 e23 r23 k23
              clear e23
              replace k23 : (0 : Int) ≤ v23 ∧ v23 ≤ 1 := k23; clear r23
              refine z_imul (pc2 := 7) rfl rfl ?_
              refine z_iret rfl rfl ?_
              show zB _ _ _ _ _ _ [_] _ _
              refine z_iload_n (pc2 := 125) rfl rfl rfl ?_
              refine z_iload_n (pc2 := 126) rfl rfl rfl ?_
              refine z_iload_n (pc2 := 127) rfl rfl rfl ?_
              refine z_callS (y2 := 182) (as := [_, _, _]) (rest := [_]) (pc2 := 130) rfl rfl rfl rfl ?_
              refine m_boxOf (by omega) (by omega) (by omega) (by omega) (by omega) (by omega) (fun w24 w24h => ?_)
              have w24b : 0 ≤ w24 ∧ w24 ≤ 143 := by omega
              show zB _ _ _ _ _ _ [_, _] _ _
              refine z_iadd (pc2 := 131) rfl rfl ?_
              refine z_istore (lv2 := [(6, _), (5, _), (0, _), (1, _), (2, _), (3, _), (4, _)]) (pc2 := 133) rfl rfl rfl rfl ?_
              refine z_aload_n (pc2 := 134) rfl rfl rfl ?_
              refine z_getP (pc2 := 137) rfl rfl rfl rfl t56 ?_
              intro p25 p25e p25k; replace p25k : p25 = some 57 := p25k; clear p25e; subst p25k
              refine z_iload (pc2 := 139) rfl rfl rfl ?_
              refine z_dup2 (pc2 := 140) rfl rfl rfl rfl ?_
              refine z_iald (pc2 := 141) rfl rfl t57 (by omega) (by omega) (by decide) ?_
              intro v26 e26 r26 k26
              clear e26
              clear k26
              refine z_iload (pc2 := 143) rfl rfl rfl ?_
              refine z_iadd (pc2 := 144) rfl rfl ?_
              refine z_iast_any (pc2 := 145) rfl rfl t57 (by omega) (by omega) (by decide) (fun _ _ => st_box (by omega)) (fun u27 u27r => ?_); clear u27r
              refine z_aload_n (pc2 := 146) rfl rfl rfl ?_
              refine z_aload_n (pc2 := 147) rfl rfl rfl ?_
              refine z_getP (pc2 := 150) rfl rfl rfl rfl t56 ?_
              intro p28 p28e p28k; replace p28k : p28 = some 57 := p28k; clear p28e; subst p28k
              refine z_iload (pc2 := 152) rfl rfl rfl ?_
              refine z_iald (pc2 := 153) rfl rfl t57 (by omega) (by omega) (by decide) ?_
              intro v29 e29 r29 k29
              clear e29
              clear k29
              refine z_callV (y2 := 198) (as := [_]) (rest := []) (pc2 := 156) rfl rfl rfl rfl t56 rfl ?_
              refine z_inl ?_
              refine z_lv (lv2 := [(0, _), (1, _)]) ⟨rfl, rfl, trivial⟩ ?_
              refine z_aload_n (pc2 := 1) rfl rfl rfl ?_
              refine z_callV (y2 := 168) (as := []) (rest := []) (pc2 := 4) rfl rfl rfl rfl t56 rfl ?_
              refine z_inl ?_
              refine z_lv (lv2 := [(0, _)]) ⟨rfl, trivial⟩ ?_
              refine z_aload_n (pc2 := 1) rfl rfl rfl ?_
              refine z_getP (pc2 := 4) rfl rfl rfl rfl t56 ?_
              intro p30 p30e p30k; replace p30k : p30 = some 59 := p30k; clear p30e; subst p30k
              refine z_aload_n (pc2 := 5) rfl rfl rfl ?_
              refine z_getI (pc2 := 8) 0 rfl rfl rfl rfl rfl t56 ?_
              intro v31 e31 r31 k31
              clear e31
              replace k31 : (0 : Int) ≤ v31 ∧ v31 ≤ 1 := k31; clear r31
              refine z_iconst (pc2 := 9) rfl rfl ?_
              refine z_bast (pc2 := 10) rfl rfl t59 (by omega) (by omega) (by decide) (by omega) True.intro ?_
              refine z_ret rfl rfl ?_
              show zB _ _ _ _ _ _ [] _ _
              refine z_aload_n (pc2 := 5) rfl rfl rfl ?_
              refine z_iload_n (pc2 := 6) rfl rfl rfl ?_
              refine z_callV (y2 := 158) (as := [_]) (rest := []) (pc2 := 9) rfl rfl rfl rfl t56 rfl ?_
              refine z_inl ?_
              refine z_lv (lv2 := [(0, _), (1, _)]) ⟨rfl, rfl, trivial⟩ ?_
              refine z_aload_n (pc2 := 1) rfl rfl rfl ?_
              refine z_iconst (pc2 := 2) rfl rfl ?_
              refine z_putI (pc2 := 5) rfl rfl rfl rfl rfl rfl t56 (by omega) True.intro ?_
              refine z_iload_n (pc2 := 6) rfl rfl rfl ?_
              refine z_iret rfl rfl ?_
              show zB _ _ _ _ _ _ [_] _ _
              refine z_iret rfl rfl ?_
              show zB _ _ _ _ _ _ [_] _ _
              refine z_iret rfl rfl ?_
              exact hK _ _ _ (by repeat (first | exact zFr_rf _ | assumption | refine zFr_a ?_ (by decide) | refine zFr_f ?_ (by decide) | refine zFr_n ?_ (by omega) | refine zFr_h ?_ (by omega) | refine zFr_tok ?_ (by omega)))
            ·
              refine z_aload_n (pc2 := 85) rfl rfl rfl ?_
              refine z_iload (pc2 := 87) rfl rfl rfl ?_
              refine z_callV (y2 := 160) (as := [_]) (rest := []) (pc2 := 90) rfl rfl rfl rfl t56 rfl ?_
              refine z_inl ?_
              refine z_lv (lv2 := [(0, _), (1, _)]) ⟨rfl, rfl, trivial⟩ ?_
              refine z_aload_n (pc2 := 1) rfl rfl rfl ?_
              refine z_dup (pc2 := 2) rfl rfl rfl ?_
              refine z_getI (pc2 := 5) 0 rfl rfl rfl rfl rfl t56 ?_
              intro v32 e32 r32 k32
              clear e32
              clear k32
              refine z_iconst (pc2 := 6) rfl rfl ?_
              refine z_iadd (pc2 := 7) rfl rfl ?_
              refine z_putI_any (pc2 := 10) rfl rfl rfl rfl rfl rfl t56 (fun _ _ => True.intro) (fun u33 u33r => ?_); clear u33r
              refine z_aload_n (pc2 := 11) rfl rfl rfl ?_
              refine z_bipush (pc2 := 13) rfl rfl (by decide) ?_
              refine z_iload_n (pc2 := 14) rfl rfl rfl ?_
              refine z_isub (pc2 := 15) rfl rfl ?_
              refine z_putI (pc2 := 18) rfl rfl rfl rfl rfl rfl t56 (by omega) True.intro ?_
              refine z_aload_n (pc2 := 19) rfl rfl rfl ?_
              refine z_getI (pc2 := 22) 0 rfl rfl rfl rfl rfl t56 ?_
              intro v34 e34 r34 k34
              clear e34
              clear k34
              refine z_iret rfl rfl ?_
              show zB _ _ _ _ _ _ [_] _ _
              refine z_iret rfl rfl ?_
              exact hK _ _ _ (by repeat (first | exact zFr_rf _ | assumption | refine zFr_a ?_ (by decide) | refine zFr_f ?_ (by decide) | refine zFr_n ?_ (by omega) | refine zFr_h ?_ (by omega) | refine zFr_tok ?_ (by omega)))
          ·
            refine z_iconst (pc2 := 11) rfl rfl ?_
            refine z_goto (pc2 := 15) rfl rfl ?_
            refine z_zret rfl rfl (by omega) ?_
            show zB _ _ _ _ _ _ [_] _ _
            refine z_if_eq (t := 70) (pc2 := 63) rfl rfl rfl (by omega) (fun c35 => by exfalso; omega) (fun c35 => ?_)
            refine z_aload_n (pc2 := 64) rfl rfl rfl ?_
            refine z_bipush (pc2 := 66) rfl rfl (by decide) ?_
            refine z_callV (y2 := 159) (as := [_]) (rest := []) (pc2 := 69) rfl rfl rfl rfl t56 rfl ?_
            refine z_inl ?_
            refine z_lv (lv2 := [(0, _), (1, _)]) ⟨rfl, rfl, trivial⟩ ?_
            refine z_aload_n (pc2 := 1) rfl rfl rfl ?_
            refine z_iload_n (pc2 := 2) rfl rfl rfl ?_
            refine z_putI (pc2 := 5) rfl rfl rfl rfl rfl rfl t56 (by omega) True.intro ?_
            refine z_iload_n (pc2 := 6) rfl rfl rfl ?_
            refine z_iret rfl rfl ?_
            show zB _ _ _ _ _ _ [_] _ _
            refine z_iret rfl rfl ?_
            exact hK _ _ _ (by repeat (first | exact zFr_rf _ | assumption | refine zFr_a ?_ (by decide) | refine zFr_f ?_ (by decide) | refine zFr_n ?_ (by omega) | refine zFr_h ?_ (by omega) | refine zFr_tok ?_ (by omega)))
      ·
        refine z_aload_n (pc2 := 33) rfl rfl rfl ?_
        refine z_iconst (pc2 := 34) rfl rfl ?_
        refine z_callV (y2 := 159) (as := [_]) (rest := []) (pc2 := 37) rfl rfl rfl rfl t56 rfl ?_
        refine z_inl ?_
        refine z_lv (lv2 := [(0, _), (1, _)]) ⟨rfl, rfl, trivial⟩ ?_
        refine z_aload_n (pc2 := 1) rfl rfl rfl ?_
        refine z_iload_n (pc2 := 2) rfl rfl rfl ?_
        refine z_putI (pc2 := 5) rfl rfl rfl rfl rfl rfl t56 (by omega) True.intro ?_
        refine z_iload_n (pc2 := 6) rfl rfl rfl ?_
        refine z_iret rfl rfl ?_
        show zB _ _ _ _ _ _ [_] _ _
        refine z_iret rfl rfl ?_
        exact hK _ _ _ (by repeat (first | exact zFr_rf _ | assumption | refine zFr_a ?_ (by decide) | refine zFr_f ?_ (by decide) | refine zFr_n ?_ (by omega) | refine zFr_h ?_ (by omega) | refine zFr_tok ?_ (by omega)))
set_option maxHeartbeats 8000000 in
theorem m_sign {L : Nat} {xs : Nat → Int32} {n sl : Nat} {T : Nat → zT} {I : Nat → Nat → Int} {P : Nat → Nat → Option Nat} {G : Nat → Nat → Int} {K : List zV → zH → Prop} {a b c : Int} (hT : ∀ a, 56 ≤ a → a ≤ 90 → T a = zFix a) (ha : zR a) (hb : zR b) (hc : zR c) (hK : ∀ e I2 G2, zFr I I2 → K [.inl e] (n, sl, T, I2, P, G2)) : zX zMd L xs 209 [.inr (.inl (some 56)), .inl a, .inl b, .inl c] (n, sl, T, I, P, G) K := by
  have t56 : T 56 = (1, 12, [1]) := hT 56 (by decide) (by decide)
  have t77 : T 77 = (2, 0, [24, 6]) := hT 77 (by decide) (by decide)
  have t78 : T 78 = (2, 0, [960, 7]) := hT 78 (by decide) (by decide)
  refine z_inl ?_
  refine z_lv (lv2 := [(0, _), (1, _), (2, _), (3, _)]) ⟨rfl, rfl, rfl, rfl, trivial⟩ ?_
  refine z_iload_n (pc2 := 1) rfl rfl rfl ?_
  refine z_callS (y2 := 207) (as := [_]) (rest := []) (pc2 := 4) rfl rfl rfl rfl ?_
  refine z_inl ?_
  refine z_lv (lv2 := [(0, _)]) ⟨rfl, trivial⟩ ?_
  refine z_iload_n (pc2 := 1) rfl rfl rfl ?_
  refine z_i2l (pc2 := 2) rfl rfl (by omega) ?_
  refine z_lconst 0 (pc2 := 3) rfl rfl rfl ?_
  refine z_ldc2 (11) (pc2 := 6) rfl rfl rfl ?_
  refine z_callS (y2 := 157) (as := [_, _, _]) (rest := []) (pc2 := 9) rfl rfl rfl rfl ?_
  refine m_in (by omega) (by omega) (by omega) (fun e1 e1a e1b e1c => ?_)
  show zB _ _ _ _ _ _ [_] _ _
  refine z_zret rfl rfl (by omega) ?_
  show zB _ _ _ _ _ _ [_] _ _
  refine z_if_eq (t := 19) (pc2 := 7) rfl rfl rfl (by omega) (fun c2 => ?_) (fun c2 => ?_)
  ·
    refine z_aload_n (pc2 := 20) rfl rfl rfl ?_
    refine z_iconst (pc2 := 21) rfl rfl ?_
    refine z_callV (y2 := 159) (as := [_]) (rest := []) (pc2 := 24) rfl rfl rfl rfl t56 rfl ?_
    refine z_inl ?_
    refine z_lv (lv2 := [(0, _), (1, _)]) ⟨rfl, rfl, trivial⟩ ?_
    refine z_aload_n (pc2 := 1) rfl rfl rfl ?_
    refine z_iload_n (pc2 := 2) rfl rfl rfl ?_
    refine z_putI (pc2 := 5) rfl rfl rfl rfl rfl rfl t56 (by omega) True.intro ?_
    refine z_iload_n (pc2 := 6) rfl rfl rfl ?_
    refine z_iret rfl rfl ?_
    show zB _ _ _ _ _ _ [_] _ _
    refine z_iret rfl rfl ?_
    exact hK _ _ _ (by repeat (first | exact zFr_rf _ | assumption | refine zFr_a ?_ (by decide) | refine zFr_f ?_ (by decide) | refine zFr_n ?_ (by omega) | refine zFr_h ?_ (by omega) | refine zFr_tok ?_ (by omega)))
  ·
    refine z_iload_n (pc2 := 8) rfl rfl rfl ?_
    refine z_i2l (pc2 := 9) rfl rfl (by omega) ?_
    refine z_lconst 0 (pc2 := 10) rfl rfl rfl ?_
    refine z_ldc2 (127) (pc2 := 13) rfl rfl rfl ?_
    refine z_callS (y2 := 157) (as := [_, _, _]) (rest := []) (pc2 := 16) rfl rfl rfl rfl ?_
    refine m_in (by omega) (by omega) (by omega) (fun e3 e3a e3b e3c => ?_)
    show zB _ _ _ _ _ _ [_] _ _
    refine z_if_ne (t := 25) (pc2 := 19) rfl rfl rfl (by omega) (fun c4 => ?_) (fun c4 => ?_)
    ·
      refine z_aload_n (pc2 := 26) rfl rfl rfl ?_
      refine z_callV (y2 := 161) (as := []) (rest := []) (pc2 := 29) rfl rfl rfl rfl t56 rfl ?_
      refine z_inl ?_
      refine z_lv (lv2 := [(0, _)]) ⟨rfl, trivial⟩ ?_
      refine z_aload_n (pc2 := 1) rfl rfl rfl ?_
      refine z_getI (pc2 := 4) 0 rfl rfl rfl rfl rfl t56 ?_
      intro v5 e5 r5 k5
      clear e5
      clear k5
      refine z_sipush (pc2 := 7) rfl rfl (by decide) ?_
      refine z_icmp_lt (t := 14) (pc2 := 10) rfl rfl rfl (by omega) (by omega) (fun c6 => ?_) (fun c6 => ?_)
      ·
        refine z_iconst (pc2 := 15) rfl rfl ?_
        refine z_zret rfl rfl (by omega) ?_
        show zB _ _ _ _ _ _ [_] _ _
        refine z_if_eq (t := 39) (pc2 := 32) rfl rfl rfl (by omega) (fun c7 => ?_) (fun c7 => by exfalso; omega)
        refine z_aload_n (pc2 := 40) rfl rfl rfl ?_
        refine z_getP (pc2 := 43) rfl rfl rfl rfl t56 ?_
        intro p8 p8e p8k; replace p8k : p8 = some 77 := p8k; clear p8e; subst p8k
        refine z_bipush (pc2 := 45) rfl rfl (by decide) ?_
        refine z_aload_n (pc2 := 46) rfl rfl rfl ?_
        refine z_getI (pc2 := 49) 0 rfl rfl rfl rfl rfl t56 ?_
        intro v9 e9 r9 k9
        clear e9
        replace k9 : (0 : Int) ≤ v9 ∧ v9 ≤ 1 := k9; clear r9
        refine z_imul (pc2 := 50) rfl rfl ?_
        refine z_iload_n (pc2 := 51) rfl rfl rfl ?_
        refine z_iadd (pc2 := 52) rfl rfl ?_
        refine z_iald (pc2 := 53) rfl rfl t77 (by omega) (by omega) (by decide) ?_
        intro v10 e10 r10 k10
        clear e10
        replace k10 : (-1 : Int) ≤ v10 ∧ v10 ≤ 40 := k10; clear r10
        refine z_istore (lv2 := [(4, _), (0, _), (1, _), (2, _), (3, _)]) (pc2 := 55) rfl rfl rfl rfl ?_
        refine z_iload (pc2 := 57) rfl rfl rfl ?_
        refine z_if_lt (t := 74) (pc2 := 60) rfl rfl rfl (by omega) (fun c11 => ?_) (fun c11 => ?_)
        ·
          refine z_aload_n (pc2 := 75) rfl rfl rfl ?_
          refine z_iload (pc2 := 77) rfl rfl rfl ?_
          refine z_if_ge (t := 84) (pc2 := 80) rfl rfl rfl (by omega) (fun c12 => by exfalso; omega) (fun c12 => ?_)
          refine z_iconst (pc2 := 81) rfl rfl ?_
          refine z_goto (pc2 := 85) rfl rfl ?_
          refine z_callV (y2 := 160) (as := [_]) (rest := []) (pc2 := 88) rfl rfl rfl rfl t56 rfl ?_
          refine z_inl ?_
          refine z_lv (lv2 := [(0, _), (1, _)]) ⟨rfl, rfl, trivial⟩ ?_
          refine z_aload_n (pc2 := 1) rfl rfl rfl ?_
          refine z_dup (pc2 := 2) rfl rfl rfl ?_
          refine z_getI (pc2 := 5) 0 rfl rfl rfl rfl rfl t56 ?_
          intro v13 e13 r13 k13
          clear e13
          clear k13
          refine z_iconst (pc2 := 6) rfl rfl ?_
          refine z_iadd (pc2 := 7) rfl rfl ?_
          refine z_putI_any (pc2 := 10) rfl rfl rfl rfl rfl rfl t56 (fun _ _ => True.intro) (fun u14 u14r => ?_); clear u14r
          refine z_aload_n (pc2 := 11) rfl rfl rfl ?_
          refine z_bipush (pc2 := 13) rfl rfl (by decide) ?_
          refine z_iload_n (pc2 := 14) rfl rfl rfl ?_
          refine z_isub (pc2 := 15) rfl rfl ?_
          refine z_putI (pc2 := 18) rfl rfl rfl rfl rfl rfl t56 (by omega) True.intro ?_
          refine z_aload_n (pc2 := 19) rfl rfl rfl ?_
          refine z_getI (pc2 := 22) 0 rfl rfl rfl rfl rfl t56 ?_
          intro v15 e15 r15 k15
          clear e15
          clear k15
          refine z_iret rfl rfl ?_
          show zB _ _ _ _ _ _ [_] _ _
          refine z_iret rfl rfl ?_
          exact hK _ _ _ (by repeat (first | exact zFr_rf _ | assumption | refine zFr_a ?_ (by decide) | refine zFr_f ?_ (by decide) | refine zFr_n ?_ (by omega) | refine zFr_h ?_ (by omega) | refine zFr_tok ?_ (by omega)))
        ·
          refine z_iload_n (pc2 := 61) rfl rfl rfl ?_
          refine z_i2l (pc2 := 62) rfl rfl (by omega) ?_
          refine z_lconst 0 (pc2 := 63) rfl rfl rfl ?_
          refine z_iload (pc2 := 65) rfl rfl rfl ?_
          refine z_iconst (pc2 := 66) rfl rfl ?_
          refine z_isub (pc2 := 67) rfl rfl ?_
          refine z_i2l (pc2 := 68) rfl rfl (by omega) ?_
          refine z_callS (y2 := 157) (as := [_, _, _]) (rest := []) (pc2 := 71) rfl rfl rfl rfl ?_
          refine m_in (by omega) (by omega) (by omega) (fun e16 e16a e16b e16c => ?_)
          show zB _ _ _ _ _ _ [_] _ _
          refine z_if_ne (t := 89) (pc2 := 74) rfl rfl rfl (by omega) (fun c17 => ?_) (fun c17 => ?_)
          ·
            refine z_aload_n (pc2 := 90) rfl rfl rfl ?_
            refine z_getP (pc2 := 93) rfl rfl rfl rfl t56 ?_
            intro p18 p18e p18k; replace p18k : p18 = some 78 := p18k; clear p18e; subst p18k
            refine z_bipush (pc2 := 95) rfl rfl (by decide) ?_
            refine z_bipush (pc2 := 97) rfl rfl (by decide) ?_
            refine z_aload_n (pc2 := 98) rfl rfl rfl ?_
            refine z_getI (pc2 := 101) 0 rfl rfl rfl rfl rfl t56 ?_
            intro v19 e19 r19 k19
            clear e19
            replace k19 : (0 : Int) ≤ v19 ∧ v19 ≤ 1 := k19; clear r19
            refine z_imul (pc2 := 102) rfl rfl ?_
            refine z_iload_n (pc2 := 103) rfl rfl rfl ?_
            refine z_iadd (pc2 := 104) rfl rfl ?_
            refine z_imul (pc2 := 105) rfl rfl ?_
            refine z_iload_n (pc2 := 106) rfl rfl rfl ?_
            refine z_iadd (pc2 := 107) rfl rfl ?_
            refine z_iload_n (pc2 := 108) rfl rfl rfl ?_
            refine z_iast (pc2 := 109) rfl rfl t78 (by omega) (by omega) (by decide) (by omega) (by show (0 : Int) ≤ _ ∧ _ ≤ 127; omega) ?_
            refine z_aload_n (pc2 := 110) rfl rfl rfl ?_
            refine z_iconst (pc2 := 111) rfl rfl ?_
            refine z_callV (y2 := 158) (as := [_]) (rest := []) (pc2 := 114) rfl rfl rfl rfl t56 rfl ?_
            refine z_inl ?_
            refine z_lv (lv2 := [(0, _), (1, _)]) ⟨rfl, rfl, trivial⟩ ?_
            refine z_aload_n (pc2 := 1) rfl rfl rfl ?_
            refine z_iconst (pc2 := 2) rfl rfl ?_
            refine z_putI (pc2 := 5) rfl rfl rfl rfl rfl rfl t56 (by omega) True.intro ?_
            refine z_iload_n (pc2 := 6) rfl rfl rfl ?_
            refine z_iret rfl rfl ?_
            show zB _ _ _ _ _ _ [_] _ _
            refine z_iret rfl rfl ?_
            exact hK _ _ _ (by repeat (first | exact zFr_rf _ | assumption | refine zFr_a ?_ (by decide) | refine zFr_f ?_ (by decide) | refine zFr_n ?_ (by omega) | refine zFr_h ?_ (by omega) | refine zFr_tok ?_ (by omega)))
          ·
            refine z_aload_n (pc2 := 75) rfl rfl rfl ?_
            refine z_iload (pc2 := 77) rfl rfl rfl ?_
            refine z_if_ge (t := 84) (pc2 := 80) rfl rfl rfl (by omega) (fun c20 => ?_) (fun c20 => by exfalso; omega)
            refine z_iconst (pc2 := 85) rfl rfl ?_
            refine z_callV (y2 := 160) (as := [_]) (rest := []) (pc2 := 88) rfl rfl rfl rfl t56 rfl ?_
            refine z_inl ?_
            refine z_lv (lv2 := [(0, _), (1, _)]) ⟨rfl, rfl, trivial⟩ ?_
            refine z_aload_n (pc2 := 1) rfl rfl rfl ?_
            refine z_dup (pc2 := 2) rfl rfl rfl ?_
            refine z_getI (pc2 := 5) 0 rfl rfl rfl rfl rfl t56 ?_
            intro v21 e21 r21 k21
            clear e21
            clear k21
            refine z_iconst (pc2 := 6) rfl rfl ?_
            refine z_iadd (pc2 := 7) rfl rfl ?_
            refine z_putI_any (pc2 := 10) rfl rfl rfl rfl rfl rfl t56 (fun _ _ => True.intro) (fun u22 u22r => ?_); clear u22r
            refine z_aload_n (pc2 := 11) rfl rfl rfl ?_
            refine z_bipush (pc2 := 13) rfl rfl (by decide) ?_
            refine z_iload_n (pc2 := 14) rfl rfl rfl ?_
            refine z_isub (pc2 := 15) rfl rfl ?_
            refine z_putI (pc2 := 18) rfl rfl rfl rfl rfl rfl t56 (by omega) True.intro ?_
            refine z_aload_n (pc2 := 19) rfl rfl rfl ?_
            refine z_getI (pc2 := 22) 0 rfl rfl rfl rfl rfl t56 ?_
            intro v23 e23 r23 k23
            clear e23
            clear k23
            refine z_iret rfl rfl ?_
            show zB _ _ _ _ _ _ [_] _ _
            refine z_iret rfl rfl ?_
            exact hK _ _ _ (by repeat (first | exact zFr_rf _ | assumption | refine zFr_a ?_ (by decide) | refine zFr_f ?_ (by decide) | refine zFr_n ?_ (by omega) | refine zFr_h ?_ (by omega) | refine zFr_tok ?_ (by omega)))
      ·
        refine z_iconst (pc2 := 11) rfl rfl ?_
        refine z_goto (pc2 := 15) rfl rfl ?_
        refine z_zret rfl rfl (by omega) ?_
        show zB _ _ _ _ _ _ [_] _ _
        refine z_if_eq (t := 39) (pc2 := 32) rfl rfl rfl (by omega) (fun c24 => by exfalso; omega) (fun c24 => ?_)
        refine z_aload_n (pc2 := 33) rfl rfl rfl ?_
        refine z_bipush (pc2 := 35) rfl rfl (by decide) ?_
        refine z_callV (y2 := 159) (as := [_]) (rest := []) (pc2 := 38) rfl rfl rfl rfl t56 rfl ?_
        refine z_inl ?_
        refine z_lv (lv2 := [(0, _), (1, _)]) ⟨rfl, rfl, trivial⟩ ?_
        refine z_aload_n (pc2 := 1) rfl rfl rfl ?_
        refine z_iload_n (pc2 := 2) rfl rfl rfl ?_
        refine z_putI (pc2 := 5) rfl rfl rfl rfl rfl rfl t56 (by omega) True.intro ?_
        refine z_iload_n (pc2 := 6) rfl rfl rfl ?_
        refine z_iret rfl rfl ?_
        show zB _ _ _ _ _ _ [_] _ _
        refine z_iret rfl rfl ?_
        exact hK _ _ _ (by repeat (first | exact zFr_rf _ | assumption | refine zFr_a ?_ (by decide) | refine zFr_f ?_ (by decide) | refine zFr_n ?_ (by omega) | refine zFr_h ?_ (by omega) | refine zFr_tok ?_ (by omega)))
    ·
      refine z_aload_n (pc2 := 20) rfl rfl rfl ?_
      refine z_iconst (pc2 := 21) rfl rfl ?_
      refine z_callV (y2 := 159) (as := [_]) (rest := []) (pc2 := 24) rfl rfl rfl rfl t56 rfl ?_
      refine z_inl ?_
      refine z_lv (lv2 := [(0, _), (1, _)]) ⟨rfl, rfl, trivial⟩ ?_
      refine z_aload_n (pc2 := 1) rfl rfl rfl ?_
      refine z_iload_n (pc2 := 2) rfl rfl rfl ?_
      refine z_putI (pc2 := 5) rfl rfl rfl rfl rfl rfl t56 (by omega) True.intro ?_
      refine z_iload_n (pc2 := 6) rfl rfl rfl ?_
      refine z_iret rfl rfl ?_
      show zB _ _ _ _ _ _ [_] _ _
      refine z_iret rfl rfl ?_
      exact hK _ _ _ (by repeat (first | exact zFr_rf _ | assumption | refine zFr_a ?_ (by decide) | refine zFr_f ?_ (by decide) | refine zFr_n ?_ (by omega) | refine zFr_h ?_ (by omega) | refine zFr_tok ?_ (by omega)))
set_option maxHeartbeats 8000000 in
theorem m_status {L : Nat} {xs : Nat → Int32} {n sl : Nat} {T : Nat → zT} {I : Nat → Nat → Int} {P : Nat → Nat → Option Nat} {G : Nat → Nat → Int} {K : List zV → zH → Prop} (hT : ∀ a, 56 ≤ a → a ≤ 90 → T a = zFix a) (hK : ∀ e I2 G2, zFr I I2 → K [.inl e] (n, sl, T, I2, P, G2)) : zX zMd L xs 264 [.inr (.inl (some 56))] (n, sl, T, I, P, G) K := by
  have t56 : T 56 = (1, 12, [1]) := hT 56 (by decide) (by decide)
  refine z_inl ?_
  refine z_lv (lv2 := [(0, _)]) ⟨rfl, trivial⟩ ?_
  refine z_aload_n (pc2 := 1) rfl rfl rfl ?_
  refine z_getI (pc2 := 4) 0 rfl rfl rfl rfl rfl t56 ?_
  intro v1 e1 r1 k1
  clear e1
  clear k1
  refine z_iret rfl rfl ?_
  exact hK _ _ _ (by repeat (first | exact zFr_rf _ | assumption | refine zFr_a ?_ (by decide) | refine zFr_f ?_ (by decide) | refine zFr_n ?_ (by omega) | refine zFr_h ?_ (by omega) | refine zFr_tok ?_ (by omega)))
set_option maxHeartbeats 8000000 in
theorem m_trace {L : Nat} {xs : Nat → Int32} {n sl : Nat} {T : Nat → zT} {I : Nat → Nat → Int} {P : Nat → Nat → Option Nat} {G : Nat → Nat → Int} {K : List zV → zH → Prop} {a : Int} (hT : ∀ a, 56 ≤ a → a ≤ 90 → T a = zFix a) (ha : zR a) (hK : ∀ e I2 G2, zFr I I2 → K [.inl e] (n, sl, T, I2, P, G2)) : zX zMd L xs 266 [.inr (.inl (some 56)), .inl a] (n, sl, T, I, P, G) K := by
  have t56 : T 56 = (1, 12, [1]) := hT 56 (by decide) (by decide)
  have t60 : T 60 = (2, 0, [60, 0]) := hT 60 (by decide) (by decide)
  refine z_inl ?_
  refine z_lv (lv2 := [(0, _), (1, _)]) ⟨rfl, rfl, trivial⟩ ?_
  refine z_iload_n (pc2 := 1) rfl rfl rfl ?_
  refine z_if_lt (t := 27) (pc2 := 4) rfl rfl rfl (by omega) (fun c1 => ?_) (fun c1 => ?_)
  ·
    refine z_bipush (pc2 := 29) rfl rfl (by decide) ?_
    refine z_iret rfl rfl ?_
    exact hK _ _ _ (by repeat (first | exact zFr_rf _ | assumption | refine zFr_a ?_ (by decide) | refine zFr_f ?_ (by decide) | refine zFr_n ?_ (by omega) | refine zFr_h ?_ (by omega) | refine zFr_tok ?_ (by omega)))
  ·
    refine z_iload_n (pc2 := 5) rfl rfl rfl ?_
    refine z_aload_n (pc2 := 6) rfl rfl rfl ?_
    refine z_getI (pc2 := 9) 0 rfl rfl rfl rfl rfl t56 ?_
    intro v2 e2 r2 k2
    clear e2
    replace k2 : (0 : Int) ≤ v2 ∧ v2 ≤ 1000000 := k2; clear r2
    refine z_icmp_ge (t := 27) (pc2 := 12) rfl rfl rfl (by omega) (by omega) (fun c3 => ?_) (fun c3 => ?_)
    ·
      refine z_bipush (pc2 := 29) rfl rfl (by decide) ?_
      refine z_iret rfl rfl ?_
      exact hK _ _ _ (by repeat (first | exact zFr_rf _ | assumption | refine zFr_a ?_ (by decide) | refine zFr_f ?_ (by decide) | refine zFr_n ?_ (by omega) | refine zFr_h ?_ (by omega) | refine zFr_tok ?_ (by omega)))
    ·
      refine z_iload_n (pc2 := 13) rfl rfl rfl ?_
      refine z_bipush (pc2 := 15) rfl rfl (by decide) ?_
      refine z_icmp_ge (t := 27) (pc2 := 18) rfl rfl rfl (by omega) (by omega) (fun c4 => ?_) (fun c4 => ?_)
      ·
        refine z_bipush (pc2 := 29) rfl rfl (by decide) ?_
        refine z_iret rfl rfl ?_
        exact hK _ _ _ (by repeat (first | exact zFr_rf _ | assumption | refine zFr_a ?_ (by decide) | refine zFr_f ?_ (by decide) | refine zFr_n ?_ (by omega) | refine zFr_h ?_ (by omega) | refine zFr_tok ?_ (by omega)))
      ·
        refine z_aload_n (pc2 := 19) rfl rfl rfl ?_
        refine z_getP (pc2 := 22) rfl rfl rfl rfl t56 ?_
        intro p5 p5e p5k; replace p5k : p5 = some 60 := p5k; clear p5e; subst p5k
        refine z_iload_n (pc2 := 23) rfl rfl rfl ?_
        refine z_iald (pc2 := 24) rfl rfl t60 (by omega) (by omega) (by decide) ?_
        intro v6 e6 r6 k6
        clear e6
        clear k6
        refine z_goto (pc2 := 29) rfl rfl ?_
        refine z_iret rfl rfl ?_
        exact hK _ _ _ (by repeat (first | exact zFr_rf _ | assumption | refine zFr_a ?_ (by decide) | refine zFr_f ?_ (by decide) | refine zFr_n ?_ (by omega) | refine zFr_h ?_ (by omega) | refine zFr_tok ?_ (by omega)))
set_option maxHeartbeats 8000000 in
theorem m_left {L : Nat} {xs : Nat → Int32} {n sl : Nat} {T : Nat → zT} {I : Nat → Nat → Int} {P : Nat → Nat → Option Nat} {G : Nat → Nat → Int} {K : List zV → zH → Prop} {a b c : Int} (hT : ∀ a, 56 ≤ a → a ≤ 90 → T a = zFix a) (ha : zR a) (hb : zR b) (hc : zR c) (hK : ∀ e I2 G2, zFr I I2 → K [.inl e] (n, sl, T, I2, P, G2)) : zX zMd L xs 265 [.inr (.inl (some 56)), .inl a, .inl b, .inl c] (n, sl, T, I, P, G) K := by
  have t56 : T 56 = (1, 12, [1]) := hT 56 (by decide) (by decide)
  have t57 : T 57 = (2, 0, [112200, 1]) := hT 57 (by decide) (by decide)
  refine z_inl ?_
  refine z_lv (lv2 := [(0, _), (1, _), (2, _), (3, _)]) ⟨rfl, rfl, rfl, rfl, trivial⟩ ?_
  refine z_iload_n (pc2 := 1) rfl rfl rfl ?_
  refine z_callS (y2 := 164) (as := [_]) (rest := []) (pc2 := 4) rfl rfl rfl rfl ?_
  refine z_inl ?_
  refine z_lv (lv2 := [(0, _)]) ⟨rfl, trivial⟩ ?_
  refine z_iload_n (pc2 := 1) rfl rfl rfl ?_
  refine z_i2l (pc2 := 2) rfl rfl (by omega) ?_
  refine z_lconst 0 (pc2 := 3) rfl rfl rfl ?_
  refine z_ldc2 (3) (pc2 := 6) rfl rfl rfl ?_
  refine z_callS (y2 := 157) (as := [_, _, _]) (rest := []) (pc2 := 9) rfl rfl rfl rfl ?_
  refine m_in (by omega) (by omega) (by omega) (fun e1 e1a e1b e1c => ?_)
  show zB _ _ _ _ _ _ [_] _ _
  refine z_zret rfl rfl (by omega) ?_
  show zB _ _ _ _ _ _ [_] _ _
  refine z_if_eq (t := 19) (pc2 := 7) rfl rfl rfl (by omega) (fun c2 => ?_) (fun c2 => ?_)
  ·
    refine z_iconst (pc2 := 20) rfl rfl ?_
    refine z_iret rfl rfl ?_
    exact hK _ _ _ (by repeat (first | exact zFr_rf _ | assumption | refine zFr_a ?_ (by decide) | refine zFr_f ?_ (by decide) | refine zFr_n ?_ (by omega) | refine zFr_h ?_ (by omega) | refine zFr_tok ?_ (by omega)))
  ·
    refine z_iload_n (pc2 := 8) rfl rfl rfl ?_
    refine z_i2l (pc2 := 9) rfl rfl (by omega) ?_
    refine z_lconst 0 (pc2 := 10) rfl rfl rfl ?_
    refine z_ldc2 (4) (pc2 := 13) rfl rfl rfl ?_
    refine z_callS (y2 := 157) (as := [_, _, _]) (rest := []) (pc2 := 16) rfl rfl rfl rfl ?_
    refine m_in (by omega) (by omega) (by omega) (fun e3 e3a e3b e3c => ?_)
    show zB _ _ _ _ _ _ [_] _ _
    refine z_if_ne (t := 21) (pc2 := 19) rfl rfl rfl (by omega) (fun c4 => ?_) (fun c4 => ?_)
    ·
      refine z_aload_n (pc2 := 22) rfl rfl rfl ?_
      refine z_iload_n (pc2 := 23) rfl rfl rfl ?_
      refine z_iload_n (pc2 := 24) rfl rfl rfl ?_
      refine z_iload_n (pc2 := 25) rfl rfl rfl ?_
      refine z_callV (y2 := 205) (as := [_, _, _]) (rest := []) (pc2 := 28) rfl rfl rfl rfl t56 rfl ?_
      refine m_lacksBox hT (by omega) (by omega) (by omega) (fun w5 w5r w5h => ?_)
      show zB _ _ _ _ _ _ [_] _ _
      refine z_if_eq (t := 36) (pc2 := 31) rfl rfl rfl (by omega) (fun c6 => ?_) (fun c6 => ?_)
      ·
        refine z_aload_n (pc2 := 37) rfl rfl rfl ?_
        refine z_getP (pc2 := 40) rfl rfl rfl rfl t56 ?_
        intro p7 p7e p7k; replace p7k : p7 = some 57 := p7k; clear p7e; subst p7k
        refine z_aload_n (pc2 := 41) rfl rfl rfl ?_
        refine z_callV (y2 := 162) (as := []) (rest := [_]) (pc2 := 44) rfl rfl rfl rfl t56 rfl ?_
        refine z_inl ?_
        refine z_lv (lv2 := [(0, _)]) ⟨rfl, trivial⟩ ?_
        refine z_ldc (56100) (pc2 := 2) rfl rfl rfl ?_
        refine z_aload_n (pc2 := 3) rfl rfl rfl ?_
        refine z_getI (pc2 := 6) 0 rfl rfl rfl rfl rfl t56 ?_
        intro v8 e8 r8 k8
        clear e8
        replace k8 : (0 : Int) ≤ v8 ∧ v8 ≤ 1 := k8; clear r8
        refine z_imul (pc2 := 7) rfl rfl ?_
        refine z_iret rfl rfl ?_
        show zB _ _ _ _ _ _ [_, _] _ _
        refine z_iload_n (pc2 := 45) rfl rfl rfl ?_
        refine z_iload_n (pc2 := 46) rfl rfl rfl ?_
        refine z_iload_n (pc2 := 47) rfl rfl rfl ?_
        refine z_callS (y2 := 182) (as := [_, _, _]) (rest := [_, _]) (pc2 := 50) rfl rfl rfl rfl ?_
        refine m_boxOf (by omega) (by omega) (by omega) (by omega) (by omega) (by omega) (fun w9 w9h => ?_)
        have w9b : 0 ≤ w9 ∧ w9 ≤ 143 := by omega
        show zB _ _ _ _ _ _ [_, _, _] _ _
        refine z_iadd (pc2 := 51) rfl rfl ?_
        refine z_iald (pc2 := 52) rfl rfl t57 (by omega) (by omega) (by decide) ?_
        intro v10 e10 r10 k10
        clear e10
        clear k10
        refine z_iret rfl rfl ?_
        exact hK _ _ _ (by repeat (first | exact zFr_rf _ | assumption | refine zFr_a ?_ (by decide) | refine zFr_f ?_ (by decide) | refine zFr_n ?_ (by omega) | refine zFr_h ?_ (by omega) | refine zFr_tok ?_ (by omega)))
      ·
        refine z_bipush (pc2 := 33) rfl rfl (by decide) ?_
        refine z_goto (pc2 := 52) rfl rfl ?_
        refine z_iret rfl rfl ?_
        exact hK _ _ _ (by repeat (first | exact zFr_rf _ | assumption | refine zFr_a ?_ (by decide) | refine zFr_f ?_ (by decide) | refine zFr_n ?_ (by omega) | refine zFr_h ?_ (by omega) | refine zFr_tok ?_ (by omega)))
    ·
      refine z_iconst (pc2 := 20) rfl rfl ?_
      refine z_iret rfl rfl ?_
      exact hK _ _ _ (by repeat (first | exact zFr_rf _ | assumption | refine zFr_a ?_ (by decide) | refine zFr_f ?_ (by decide) | refine zFr_n ?_ (by omega) | refine zFr_h ?_ (by omega) | refine zFr_tok ?_ (by omega)))
set_option maxHeartbeats 8000000 in
theorem m_told {L : Nat} {xs : Nat → Int32} {n sl : Nat} {T : Nat → zT} {I : Nat → Nat → Int} {P : Nat → Nat → Option Nat} {G : Nat → Nat → Int} {K : List zV → zH → Prop} {a : Int} (hT : ∀ a, 56 ≤ a → a ≤ 90 → T a = zFix a) (ha : zR a) (hK : ∀ e I2 G2, zFr I I2 → K [.inl e] (n, sl, T, I2, P, G2)) : zX zMd L xs 267 [.inr (.inl (some 56)), .inl a] (n, sl, T, I, P, G) K := by
  have t56 : T 56 = (1, 12, [1]) := hT 56 (by decide) (by decide)
  have t57 : T 57 = (2, 0, [112200, 1]) := hT 57 (by decide) (by decide)
  have t59 : T 59 = (2, 2, [2, 0]) := hT 59 (by decide) (by decide)
  have t76 : T 76 = (2, 0, [2, 0]) := hT 76 (by decide) (by decide)
  refine z_inl ?_
  refine z_lv (lv2 := [(0, _), (1, _)]) ⟨rfl, rfl, trivial⟩ ?_
  refine z_iload_n (pc2 := 1) rfl rfl rfl ?_
  refine z_tsw (td := 170) rfl rfl (by omega) (fun c1 => ?_) (fun j c1j c1h => ?_)
  ·
    refine z_iconst (pc2 := 171) rfl rfl ?_
    refine z_iret rfl rfl ?_
    exact hK _ _ _ (by repeat (first | exact zFr_rf _ | assumption | refine zFr_a ?_ (by decide) | refine zFr_f ?_ (by decide) | refine zFr_n ?_ (by omega) | refine zFr_h ?_ (by omega) | refine zFr_tok ?_ (by omega)))
  ·
    have c1t : j = 0 ∨ j = 1 ∨ j = 2 ∨ j = 3 ∨ j = 4 ∨ j = 5 ∨ j = 6 ∨ j = 7 ∨ j = 8 ∨ j = 9 := by omega
    rcases c1t with rfl | rfl | rfl | rfl | rfl | rfl | rfl | rfl | rfl | rfl
    ·
      refine ⟨_, 56, rfl, rfl, ?_⟩
      refine z_aload_n (pc2 := 57) rfl rfl rfl ?_
      refine z_getI (pc2 := 60) 0 rfl rfl rfl rfl rfl t56 ?_
      intro v2 e2 r2 k2
      clear e2
      replace k2 : (0 : Int) ≤ v2 ∧ v2 ≤ 1 := k2; clear r2
      refine z_iret rfl rfl ?_
      exact hK _ _ _ (by repeat (first | exact zFr_rf _ | assumption | refine zFr_a ?_ (by decide) | refine zFr_f ?_ (by decide) | refine zFr_n ?_ (by omega) | refine zFr_h ?_ (by omega) | refine zFr_tok ?_ (by omega)))
    ·
      refine ⟨_, 61, rfl, rfl, ?_⟩
      refine z_aload_n (pc2 := 62) rfl rfl rfl ?_
      refine z_getI (pc2 := 65) 0 rfl rfl rfl rfl rfl t56 ?_
      intro v3 e3 r3 k3
      clear e3
      clear k3
      refine z_iret rfl rfl ?_
      exact hK _ _ _ (by repeat (first | exact zFr_rf _ | assumption | refine zFr_a ?_ (by decide) | refine zFr_f ?_ (by decide) | refine zFr_n ?_ (by omega) | refine zFr_h ?_ (by omega) | refine zFr_tok ?_ (by omega)))
    ·
      refine ⟨_, 66, rfl, rfl, ?_⟩
      refine z_aload_n (pc2 := 67) rfl rfl rfl ?_
      refine z_getP (pc2 := 70) rfl rfl rfl rfl t56 ?_
      intro p4 p4e p4k; replace p4k : p4 = some 76 := p4k; clear p4e; subst p4k
      refine z_aload_n (pc2 := 71) rfl rfl rfl ?_
      refine z_getI (pc2 := 74) 0 rfl rfl rfl rfl rfl t56 ?_
      intro v5 e5 r5 k5
      clear e5
      replace k5 : (0 : Int) ≤ v5 ∧ v5 ≤ 1 := k5; clear r5
      refine z_iald (pc2 := 75) rfl rfl t76 (by omega) (by omega) (by decide) ?_
      intro v6 e6 r6 k6
      clear e6
      clear k6
      refine z_iret rfl rfl ?_
      exact hK _ _ _ (by repeat (first | exact zFr_rf _ | assumption | refine zFr_a ?_ (by decide) | refine zFr_f ?_ (by decide) | refine zFr_n ?_ (by omega) | refine zFr_h ?_ (by omega) | refine zFr_tok ?_ (by omega)))
    ·
      refine ⟨_, 76, rfl, rfl, ?_⟩
      refine z_aload_n (pc2 := 77) rfl rfl rfl ?_
      refine z_iconst (pc2 := 78) rfl rfl ?_
      refine z_callV (y2 := 186) (as := [_]) (rest := []) (pc2 := 81) rfl rfl rfl rfl t56 rfl ?_
      refine m_outOf hT (by omega) (fun w7 => ?_)
      show zB _ _ _ _ _ _ [_] _ _
      refine z_aload_n (pc2 := 82) rfl rfl rfl ?_
      refine z_iconst (pc2 := 83) rfl rfl ?_
      refine z_callV (y2 := 186) (as := [_]) (rest := [_]) (pc2 := 86) rfl rfl rfl rfl t56 rfl ?_
      refine m_outOf hT (by omega) (fun w8 => ?_)
      show zB _ _ _ _ _ _ [_, _] _ _
      refine z_iadd (pc2 := 87) rfl rfl ?_
      refine z_aload_n (pc2 := 88) rfl rfl rfl ?_
      refine z_iconst (pc2 := 89) rfl rfl ?_
      refine z_callV (y2 := 186) (as := [_]) (rest := [_]) (pc2 := 92) rfl rfl rfl rfl t56 rfl ?_
      refine m_outOf hT (by omega) (fun w9 => ?_)
      show zB _ _ _ _ _ _ [_, _] _ _
      refine z_iadd (pc2 := 93) rfl rfl ?_
      refine z_aload_n (pc2 := 94) rfl rfl rfl ?_
      refine z_iconst (pc2 := 95) rfl rfl ?_
      refine z_callV (y2 := 186) (as := [_]) (rest := [_]) (pc2 := 98) rfl rfl rfl rfl t56 rfl ?_
      refine m_outOf hT (by omega) (fun w10 => ?_)
      show zB _ _ _ _ _ _ [_, _] _ _
      refine z_iadd (pc2 := 99) rfl rfl ?_
      refine z_iret rfl rfl ?_
      exact hK _ _ _ (by repeat (first | exact zFr_rf _ | assumption | refine zFr_a ?_ (by decide) | refine zFr_f ?_ (by decide) | refine zFr_n ?_ (by omega) | refine zFr_h ?_ (by omega) | refine zFr_tok ?_ (by omega)))
    ·
      refine ⟨_, 100, rfl, rfl, ?_⟩
      refine z_aload_n (pc2 := 101) rfl rfl rfl ?_
      refine z_getP (pc2 := 104) rfl rfl rfl rfl t56 ?_
      intro p11 p11e p11k; replace p11k : p11 = some 57 := p11k; clear p11e; subst p11k
      refine z_aload_n (pc2 := 105) rfl rfl rfl ?_
      refine z_callV (y2 := 162) (as := []) (rest := [_]) (pc2 := 108) rfl rfl rfl rfl t56 rfl ?_
      refine z_inl ?_
      refine z_lv (lv2 := [(0, _)]) ⟨rfl, trivial⟩ ?_
      refine z_ldc (56100) (pc2 := 2) rfl rfl rfl ?_
      refine z_aload_n (pc2 := 3) rfl rfl rfl ?_
      refine z_getI (pc2 := 6) 0 rfl rfl rfl rfl rfl t56 ?_
      intro v12 e12 r12 k12
      clear e12
      replace k12 : (0 : Int) ≤ v12 ∧ v12 ≤ 1 := k12; clear r12
      refine z_imul (pc2 := 7) rfl rfl ?_
      refine z_iret rfl rfl ?_
      show zB _ _ _ _ _ _ [_, _] _ _
      refine z_sipush (pc2 := 111) rfl rfl (by decide) ?_
      refine z_iadd (pc2 := 112) rfl rfl ?_
      refine z_iald (pc2 := 113) rfl rfl t57 (by omega) (by omega) (by decide) ?_
      intro v13 e13 r13 k13
      clear e13
      replace k13 := ok_lines k13 (by omega); clear r13
      refine z_iret rfl rfl ?_
      exact hK _ _ _ (by repeat (first | exact zFr_rf _ | assumption | refine zFr_a ?_ (by decide) | refine zFr_f ?_ (by decide) | refine zFr_n ?_ (by omega) | refine zFr_h ?_ (by omega) | refine zFr_tok ?_ (by omega)))
    ·
      refine ⟨_, 114, rfl, rfl, ?_⟩
      refine z_aload_n (pc2 := 115) rfl rfl rfl ?_
      refine z_getP (pc2 := 118) rfl rfl rfl rfl t56 ?_
      intro p14 p14e p14k; replace p14k : p14 = some 57 := p14k; clear p14e; subst p14k
      refine z_aload_n (pc2 := 119) rfl rfl rfl ?_
      refine z_callV (y2 := 162) (as := []) (rest := [_]) (pc2 := 122) rfl rfl rfl rfl t56 rfl ?_
      refine z_inl ?_
      refine z_lv (lv2 := [(0, _)]) ⟨rfl, trivial⟩ ?_
      refine z_ldc (56100) (pc2 := 2) rfl rfl rfl ?_
      refine z_aload_n (pc2 := 3) rfl rfl rfl ?_
      refine z_getI (pc2 := 6) 0 rfl rfl rfl rfl rfl t56 ?_
      intro v15 e15 r15 k15
      clear e15
      replace k15 : (0 : Int) ≤ v15 ∧ v15 ≤ 1 := k15; clear r15
      refine z_imul (pc2 := 7) rfl rfl ?_
      refine z_iret rfl rfl ?_
      show zB _ _ _ _ _ _ [_, _] _ _
      refine z_sipush (pc2 := 125) rfl rfl (by decide) ?_
      refine z_iadd (pc2 := 126) rfl rfl ?_
      refine z_iald (pc2 := 127) rfl rfl t57 (by omega) (by omega) (by decide) ?_
      intro v16 e16 r16 k16
      clear e16
      replace k16 := ok_lines k16 (by omega); clear r16
      refine z_iret rfl rfl ?_
      exact hK _ _ _ (by repeat (first | exact zFr_rf _ | assumption | refine zFr_a ?_ (by decide) | refine zFr_f ?_ (by decide) | refine zFr_n ?_ (by omega) | refine zFr_h ?_ (by omega) | refine zFr_tok ?_ (by omega)))
    ·
      refine ⟨_, 128, rfl, rfl, ?_⟩
      refine z_aload_n (pc2 := 129) rfl rfl rfl ?_
      refine z_getP (pc2 := 132) rfl rfl rfl rfl t56 ?_
      intro p17 p17e p17k; replace p17k : p17 = some 57 := p17k; clear p17e; subst p17k
      refine z_aload_n (pc2 := 133) rfl rfl rfl ?_
      refine z_callV (y2 := 162) (as := []) (rest := [_]) (pc2 := 136) rfl rfl rfl rfl t56 rfl ?_
      refine z_inl ?_
      refine z_lv (lv2 := [(0, _)]) ⟨rfl, trivial⟩ ?_
      refine z_ldc (56100) (pc2 := 2) rfl rfl rfl ?_
      refine z_aload_n (pc2 := 3) rfl rfl rfl ?_
      refine z_getI (pc2 := 6) 0 rfl rfl rfl rfl rfl t56 ?_
      intro v18 e18 r18 k18
      clear e18
      replace k18 : (0 : Int) ≤ v18 ∧ v18 ≤ 1 := k18; clear r18
      refine z_imul (pc2 := 7) rfl rfl ?_
      refine z_iret rfl rfl ?_
      show zB _ _ _ _ _ _ [_, _] _ _
      refine z_sipush (pc2 := 139) rfl rfl (by decide) ?_
      refine z_iadd (pc2 := 140) rfl rfl ?_
      refine z_iald (pc2 := 141) rfl rfl t57 (by omega) (by omega) (by decide) ?_
      intro v19 e19 r19 k19
      clear e19
      replace k19 := ok_formes k19 (by omega); clear r19
      refine z_iret rfl rfl ?_
      exact hK _ _ _ (by repeat (first | exact zFr_rf _ | assumption | refine zFr_a ?_ (by decide) | refine zFr_f ?_ (by decide) | refine zFr_n ?_ (by omega) | refine zFr_h ?_ (by omega) | refine zFr_tok ?_ (by omega)))
    ·
      refine ⟨_, 142, rfl, rfl, ?_⟩
      refine z_aload_n (pc2 := 143) rfl rfl rfl ?_
      refine z_getI (pc2 := 146) 0 rfl rfl rfl rfl rfl t56 ?_
      intro v20 e20 r20 k20
      clear e20
      clear k20
      refine z_iret rfl rfl ?_
      exact hK _ _ _ (by repeat (first | exact zFr_rf _ | assumption | refine zFr_a ?_ (by decide) | refine zFr_f ?_ (by decide) | refine zFr_n ?_ (by omega) | refine zFr_h ?_ (by omega) | refine zFr_tok ?_ (by omega)))
    ·
      refine ⟨_, 147, rfl, rfl, ?_⟩
      refine z_aload_n (pc2 := 148) rfl rfl rfl ?_
      refine z_getI (pc2 := 151) 0 rfl rfl rfl rfl rfl t56 ?_
      intro v21 e21 r21 k21
      clear e21
      replace k21 : (0 : Int) ≤ v21 ∧ v21 ≤ 1000000 := k21; clear r21
      refine z_iret rfl rfl ?_
      exact hK _ _ _ (by repeat (first | exact zFr_rf _ | assumption | refine zFr_a ?_ (by decide) | refine zFr_f ?_ (by decide) | refine zFr_n ?_ (by omega) | refine zFr_h ?_ (by omega) | refine zFr_tok ?_ (by omega)))
    ·
      refine ⟨_, 152, rfl, rfl, ?_⟩
      refine z_aload_n (pc2 := 153) rfl rfl rfl ?_
      refine z_getP (pc2 := 156) rfl rfl rfl rfl t56 ?_
      intro p22 p22e p22k; replace p22k : p22 = some 59 := p22k; clear p22e; subst p22k
      refine z_aload_n (pc2 := 157) rfl rfl rfl ?_
      refine z_getI (pc2 := 160) 0 rfl rfl rfl rfl rfl t56 ?_
      intro v23 e23 r23 k23
      clear e23
      replace k23 : (0 : Int) ≤ v23 ∧ v23 ≤ 1 := k23; clear r23
      refine z_bald (pc2 := 161) rfl rfl t59 (by omega) (by omega) (by decide) ?_
      intro v24 e24 r24 k24
      clear e24
      clear k24
      refine z_if_eq (t := 168) (pc2 := 164) rfl rfl rfl (by omega) (fun c25 => ?_) (fun c25 => ?_)
      ·
        refine z_iconst (pc2 := 169) rfl rfl ?_
        refine z_iret rfl rfl ?_
        exact hK _ _ _ (by repeat (first | exact zFr_rf _ | assumption | refine zFr_a ?_ (by decide) | refine zFr_f ?_ (by decide) | refine zFr_n ?_ (by omega) | refine zFr_h ?_ (by omega) | refine zFr_tok ?_ (by omega)))
      ·
        refine z_iconst (pc2 := 165) rfl rfl ?_
        refine z_goto (pc2 := 169) rfl rfl ?_
        refine z_iret rfl rfl ?_
        exact hK _ _ _ (by repeat (first | exact zFr_rf _ | assumption | refine zFr_a ?_ (by decide) | refine zFr_f ?_ (by decide) | refine zFr_n ?_ (by omega) | refine zFr_h ?_ (by omega) | refine zFr_tok ?_ (by omega)))
set_option maxHeartbeats 8000000 in
theorem m_forme {L : Nat} {xs : Nat → Int32} {n sl : Nat} {T : Nat → zT} {I : Nat → Nat → Int} {P : Nat → Nat → Option Nat} {G : Nat → Nat → Int} {K : List zV → zH → Prop} {a : Int} (hT : ∀ a, 56 ≤ a → a ≤ 90 → T a = zFix a) (ha : zR a) (hK : ∀ e I2 G2, zFr I I2 → K [.inl e] (n, sl, T, I2, P, G2)) : zX zMd L xs 258 [.inr (.inl (some 56)), .inl a] (n, sl, T, I, P, G) K := by
  have t56 : T 56 = (1, 12, [1]) := hT 56 (by decide) (by decide)
  have t57 : T 57 = (2, 0, [112200, 1]) := hT 57 (by decide) (by decide)
  refine z_inl ?_
  refine z_lv (lv2 := [(0, _), (1, _)]) ⟨rfl, rfl, trivial⟩ ?_
  refine z_iload_n (pc2 := 1) rfl rfl rfl ?_
  refine z_i2l (pc2 := 2) rfl rfl (by omega) ?_
  refine z_lconst 0 (pc2 := 3) rfl rfl rfl ?_
  refine z_aload_n (pc2 := 4) rfl rfl rfl ?_
  refine z_getP (pc2 := 7) rfl rfl rfl rfl t56 ?_
  intro p1 p1e p1k; replace p1k : p1 = some 57 := p1k; clear p1e; subst p1k
  refine z_aload_n (pc2 := 8) rfl rfl rfl ?_
  refine z_callV (y2 := 162) (as := []) (rest := [_, _, _]) (pc2 := 11) rfl rfl rfl rfl t56 rfl ?_
  refine z_inl ?_
  refine z_lv (lv2 := [(0, _)]) ⟨rfl, trivial⟩ ?_
  refine z_ldc (56100) (pc2 := 2) rfl rfl rfl ?_
  refine z_aload_n (pc2 := 3) rfl rfl rfl ?_
  refine z_getI (pc2 := 6) 0 rfl rfl rfl rfl rfl t56 ?_
  intro v2 e2 r2 k2
  clear e2
  replace k2 : (0 : Int) ≤ v2 ∧ v2 ≤ 1 := k2; clear r2
  refine z_imul (pc2 := 7) rfl rfl ?_
  refine z_iret rfl rfl ?_
  show zB _ _ _ _ _ _ [_, _, _, _] _ _
  refine z_sipush (pc2 := 14) rfl rfl (by decide) ?_
  refine z_iadd (pc2 := 15) rfl rfl ?_
  refine z_iald (pc2 := 16) rfl rfl t57 (by omega) (by omega) (by decide) ?_
  intro v3 e3 r3 k3
  clear e3
  replace k3 := ok_formes k3 (by omega); clear r3
  refine z_iconst (pc2 := 17) rfl rfl ?_
  refine z_isub (pc2 := 18) rfl rfl ?_
  refine z_i2l (pc2 := 19) rfl rfl (by omega) ?_
  refine z_callS (y2 := 157) (as := [_, _, _]) (rest := []) (pc2 := 22) rfl rfl rfl rfl ?_
  refine m_in (by omega) (by omega) (by omega) (fun e4 e4a e4b e4c => ?_)
  show zB _ _ _ _ _ _ [_] _ _
  refine z_if_eq (t := 45) (pc2 := 25) rfl rfl rfl (by omega) (fun c5 => ?_) (fun c5 => ?_)
  ·
    refine z_bipush (pc2 := 47) rfl rfl (by decide) ?_
    refine z_iret rfl rfl ?_
    exact hK _ _ _ (by repeat (first | exact zFr_rf _ | assumption | refine zFr_a ?_ (by decide) | refine zFr_f ?_ (by decide) | refine zFr_n ?_ (by omega) | refine zFr_h ?_ (by omega) | refine zFr_tok ?_ (by omega)))
  ·
    refine z_aload_n (pc2 := 26) rfl rfl rfl ?_
    refine z_getP (pc2 := 29) rfl rfl rfl rfl t56 ?_
    intro p6 p6e p6k; replace p6k : p6 = some 57 := p6k; clear p6e; subst p6k
    refine z_aload_n (pc2 := 30) rfl rfl rfl ?_
    refine z_callV (y2 := 162) (as := []) (rest := [_]) (pc2 := 33) rfl rfl rfl rfl t56 rfl ?_
    refine z_inl ?_
    refine z_lv (lv2 := [(0, _)]) ⟨rfl, trivial⟩ ?_
    refine z_ldc (56100) (pc2 := 2) rfl rfl rfl ?_
    refine z_aload_n (pc2 := 3) rfl rfl rfl ?_
    refine z_getI (pc2 := 6) 0 rfl rfl rfl rfl rfl t56 ?_
    intro v7 e7 r7 k7
    clear e7
    replace k7 : (0 : Int) ≤ v7 ∧ v7 ≤ 1 := k7; clear r7
    refine z_imul (pc2 := 7) rfl rfl ?_
    refine z_iret rfl rfl ?_
    show zB _ _ _ _ _ _ [_, _] _ _
    refine z_sipush (pc2 := 36) rfl rfl (by decide) ?_
    refine z_iadd (pc2 := 37) rfl rfl ?_
    refine z_iconst (pc2 := 38) rfl rfl ?_
    refine z_iload_n (pc2 := 39) rfl rfl rfl ?_
    refine z_imul (pc2 := 40) rfl rfl ?_
    refine z_iadd (pc2 := 41) rfl rfl ?_
    refine z_iald (pc2 := 42) rfl rfl t57 (by omega) (by omega) (by decide) ?_
    intro v8 e8 r8 k8
    clear e8
    clear k8
    refine z_goto (pc2 := 47) rfl rfl ?_
    refine z_iret rfl rfl ?_
    exact hK _ _ _ (by repeat (first | exact zFr_rf _ | assumption | refine zFr_a ?_ (by decide) | refine zFr_f ?_ (by decide) | refine zFr_n ?_ (by omega) | refine zFr_h ?_ (by omega) | refine zFr_tok ?_ (by omega)))
set_option maxHeartbeats 8000000 in
theorem m_line {L : Nat} {xs : Nat → Int32} {n sl : Nat} {T : Nat → zT} {I : Nat → Nat → Int} {P : Nat → Nat → Option Nat} {G : Nat → Nat → Int} {K : List zV → zH → Prop} {a b : Int} (hT : ∀ a, 56 ≤ a → a ≤ 90 → T a = zFix a) (ha : zR a) (hb : zR b) (hK : ∀ e I2 G2, zFr I I2 → K [.inl e] (n, sl, T, I2, P, G2)) : zX zMd L xs 244 [.inr (.inl (some 56)), .inl a, .inl b] (n, sl, T, I, P, G) K := by
  have t56 : T 56 = (1, 12, [1]) := hT 56 (by decide) (by decide)
  have t57 : T 57 = (2, 0, [112200, 1]) := hT 57 (by decide) (by decide)
  refine z_inl ?_
  refine z_lv (lv2 := [(0, _), (1, _), (2, _)]) ⟨rfl, rfl, rfl, trivial⟩ ?_
  refine z_aload_n (pc2 := 1) rfl rfl rfl ?_
  refine z_iload_n (pc2 := 2) rfl rfl rfl ?_
  refine z_callV (y2 := 241) (as := [_]) (rest := []) (pc2 := 5) rfl rfl rfl rfl t56 rfl ?_
  refine z_inl ?_
  refine z_lv (lv2 := [(0, _), (1, _)]) ⟨rfl, rfl, trivial⟩ ?_
  refine z_iload_n (pc2 := 1) rfl rfl rfl ?_
  refine z_i2l (pc2 := 2) rfl rfl (by omega) ?_
  refine z_lconst 0 (pc2 := 3) rfl rfl rfl ?_
  refine z_aload_n (pc2 := 4) rfl rfl rfl ?_
  refine z_getP (pc2 := 7) rfl rfl rfl rfl t56 ?_
  intro p1 p1e p1k; replace p1k : p1 = some 57 := p1k; clear p1e; subst p1k
  refine z_aload_n (pc2 := 8) rfl rfl rfl ?_
  refine z_callV (y2 := 162) (as := []) (rest := [_, _, _]) (pc2 := 11) rfl rfl rfl rfl t56 rfl ?_
  refine z_inl ?_
  refine z_lv (lv2 := [(0, _)]) ⟨rfl, trivial⟩ ?_
  refine z_ldc (56100) (pc2 := 2) rfl rfl rfl ?_
  refine z_aload_n (pc2 := 3) rfl rfl rfl ?_
  refine z_getI (pc2 := 6) 0 rfl rfl rfl rfl rfl t56 ?_
  intro v2 e2 r2 k2
  clear e2
  replace k2 : (0 : Int) ≤ v2 ∧ v2 ≤ 1 := k2; clear r2
  refine z_imul (pc2 := 7) rfl rfl ?_
  refine z_iret rfl rfl ?_
  show zB _ _ _ _ _ _ [_, _, _, _] _ _
  refine z_sipush (pc2 := 14) rfl rfl (by decide) ?_
  refine z_iadd (pc2 := 15) rfl rfl ?_
  refine z_iald (pc2 := 16) rfl rfl t57 (by omega) (by omega) (by decide) ?_
  intro v3 e3 r3 k3
  clear e3
  replace k3 := ok_lines k3 (by omega); clear r3
  refine z_iconst (pc2 := 17) rfl rfl ?_
  refine z_isub (pc2 := 18) rfl rfl ?_
  refine z_i2l (pc2 := 19) rfl rfl (by omega) ?_
  refine z_callS (y2 := 157) (as := [_, _, _]) (rest := []) (pc2 := 22) rfl rfl rfl rfl ?_
  refine m_in (by omega) (by omega) (by omega) (fun e4 e4a e4b e4c => ?_)
  show zB _ _ _ _ _ _ [_] _ _
  refine z_zret rfl rfl (by omega) ?_
  show zB _ _ _ _ _ _ [_] _ _
  refine z_if_eq (t := 20) (pc2 := 8) rfl rfl rfl (by omega) (fun c5 => ?_) (fun c5 => ?_)
  ·
    refine z_iconst (pc2 := 21) rfl rfl ?_
    refine z_iret rfl rfl ?_
    exact hK _ _ _ (by repeat (first | exact zFr_rf _ | assumption | refine zFr_a ?_ (by decide) | refine zFr_f ?_ (by decide) | refine zFr_n ?_ (by omega) | refine zFr_h ?_ (by omega) | refine zFr_tok ?_ (by omega)))
  ·
    refine z_iload_n (pc2 := 9) rfl rfl rfl ?_
    refine z_i2l (pc2 := 10) rfl rfl (by omega) ?_
    refine z_lconst 0 (pc2 := 11) rfl rfl rfl ?_
    refine z_ldc2 (9) (pc2 := 14) rfl rfl rfl ?_
    refine z_callS (y2 := 157) (as := [_, _, _]) (rest := []) (pc2 := 17) rfl rfl rfl rfl ?_
    refine m_in (by omega) (by omega) (by omega) (fun e6 e6a e6b e6c => ?_)
    show zB _ _ _ _ _ _ [_] _ _
    refine z_if_ne (t := 22) (pc2 := 20) rfl rfl rfl (by omega) (fun c7 => ?_) (fun c7 => ?_)
    ·
      refine z_aload_n (pc2 := 23) rfl rfl rfl ?_
      refine z_getP (pc2 := 26) rfl rfl rfl rfl t56 ?_
      intro p8 p8e p8k; replace p8k : p8 = some 57 := p8k; clear p8e; subst p8k
      refine z_aload_n (pc2 := 27) rfl rfl rfl ?_
      refine z_iload_n (pc2 := 28) rfl rfl rfl ?_
      refine z_callV (y2 := 238) (as := [_]) (rest := [_]) (pc2 := 31) rfl rfl rfl rfl t56 rfl ?_
      refine z_inl ?_
      refine z_lv (lv2 := [(0, _), (1, _)]) ⟨rfl, rfl, trivial⟩ ?_
      refine z_aload_n (pc2 := 1) rfl rfl rfl ?_
      refine z_callV (y2 := 162) (as := []) (rest := []) (pc2 := 4) rfl rfl rfl rfl t56 rfl ?_
      refine z_inl ?_
      refine z_lv (lv2 := [(0, _)]) ⟨rfl, trivial⟩ ?_
      refine z_ldc (56100) (pc2 := 2) rfl rfl rfl ?_
      refine z_aload_n (pc2 := 3) rfl rfl rfl ?_
      refine z_getI (pc2 := 6) 0 rfl rfl rfl rfl rfl t56 ?_
      intro v9 e9 r9 k9
      clear e9
      replace k9 : (0 : Int) ≤ v9 ∧ v9 ≤ 1 := k9; clear r9
      refine z_imul (pc2 := 7) rfl rfl ?_
      refine z_iret rfl rfl ?_
      show zB _ _ _ _ _ _ [_] _ _
      refine z_sipush (pc2 := 7) rfl rfl (by decide) ?_
      refine z_iadd (pc2 := 8) rfl rfl ?_
      refine z_bipush (pc2 := 10) rfl rfl (by decide) ?_
      refine z_iload_n (pc2 := 11) rfl rfl rfl ?_
      refine z_imul (pc2 := 12) rfl rfl ?_
      refine z_iadd (pc2 := 13) rfl rfl ?_
      refine z_iret rfl rfl ?_
      show zB _ _ _ _ _ _ [_, _] _ _
      refine z_iload_n (pc2 := 32) rfl rfl rfl ?_
      refine z_iadd (pc2 := 33) rfl rfl ?_
      refine z_iald (pc2 := 34) rfl rfl t57 (by omega) (by omega) (by decide) ?_
      intro v10 e10 r10 k10
      clear e10
      clear k10
      refine z_iret rfl rfl ?_
      exact hK _ _ _ (by repeat (first | exact zFr_rf _ | assumption | refine zFr_a ?_ (by decide) | refine zFr_f ?_ (by decide) | refine zFr_n ?_ (by omega) | refine zFr_h ?_ (by omega) | refine zFr_tok ?_ (by omega)))
    ·
      refine z_iconst (pc2 := 21) rfl rfl ?_
      refine z_iret rfl rfl ?_
      exact hK _ _ _ (by repeat (first | exact zFr_rf _ | assumption | refine zFr_a ?_ (by decide) | refine zFr_f ?_ (by decide) | refine zFr_n ?_ (by omega) | refine zFr_h ?_ (by omega) | refine zFr_tok ?_ (by omega)))
set_option maxHeartbeats 8000000 in
theorem m_page {L : Nat} {xs : Nat → Int32} {n sl : Nat} {T : Nat → zT} {I : Nat → Nat → Int} {P : Nat → Nat → Option Nat} {G : Nat → Nat → Int} {K : List zV → zH → Prop} {a b : Int} (hT : ∀ a, 56 ≤ a → a ≤ 90 → T a = zFix a) (ha : zR a) (hb : zR b) (hK : ∀ e I2 G2, zFr I I2 → K [.inl e] (n, sl, T, I2, P, G2)) : zX zMd L xs 254 [.inr (.inl (some 56)), .inl a, .inl b] (n, sl, T, I, P, G) K := by
  have t56 : T 56 = (1, 12, [1]) := hT 56 (by decide) (by decide)
  have t57 : T 57 = (2, 0, [112200, 1]) := hT 57 (by decide) (by decide)
  refine z_inl ?_
  refine z_lv (lv2 := [(0, _), (1, _), (2, _)]) ⟨rfl, rfl, rfl, trivial⟩ ?_
  refine z_aload_n (pc2 := 1) rfl rfl rfl ?_
  refine z_iload_n (pc2 := 2) rfl rfl rfl ?_
  refine z_callV (y2 := 253) (as := [_]) (rest := []) (pc2 := 5) rfl rfl rfl rfl t56 rfl ?_
  refine z_inl ?_
  refine z_lv (lv2 := [(0, _), (1, _)]) ⟨rfl, rfl, trivial⟩ ?_
  refine z_iload_n (pc2 := 1) rfl rfl rfl ?_
  refine z_i2l (pc2 := 2) rfl rfl (by omega) ?_
  refine z_lconst 0 (pc2 := 3) rfl rfl rfl ?_
  refine z_aload_n (pc2 := 4) rfl rfl rfl ?_
  refine z_getP (pc2 := 7) rfl rfl rfl rfl t56 ?_
  intro p1 p1e p1k; replace p1k : p1 = some 57 := p1k; clear p1e; subst p1k
  refine z_aload_n (pc2 := 8) rfl rfl rfl ?_
  refine z_callV (y2 := 162) (as := []) (rest := [_, _, _]) (pc2 := 11) rfl rfl rfl rfl t56 rfl ?_
  refine z_inl ?_
  refine z_lv (lv2 := [(0, _)]) ⟨rfl, trivial⟩ ?_
  refine z_ldc (56100) (pc2 := 2) rfl rfl rfl ?_
  refine z_aload_n (pc2 := 3) rfl rfl rfl ?_
  refine z_getI (pc2 := 6) 0 rfl rfl rfl rfl rfl t56 ?_
  intro v2 e2 r2 k2
  clear e2
  replace k2 : (0 : Int) ≤ v2 ∧ v2 ≤ 1 := k2; clear r2
  refine z_imul (pc2 := 7) rfl rfl ?_
  refine z_iret rfl rfl ?_
  show zB _ _ _ _ _ _ [_, _, _, _] _ _
  refine z_sipush (pc2 := 14) rfl rfl (by decide) ?_
  refine z_iadd (pc2 := 15) rfl rfl ?_
  refine z_iald (pc2 := 16) rfl rfl t57 (by omega) (by omega) (by decide) ?_
  intro v3 e3 r3 k3
  clear e3
  replace k3 := ok_lines k3 (by omega); clear r3
  refine z_iconst (pc2 := 17) rfl rfl ?_
  refine z_isub (pc2 := 18) rfl rfl ?_
  refine z_i2l (pc2 := 19) rfl rfl (by omega) ?_
  refine z_callS (y2 := 157) (as := [_, _, _]) (rest := []) (pc2 := 22) rfl rfl rfl rfl ?_
  refine m_in (by omega) (by omega) (by omega) (fun e4 e4a e4b e4c => ?_)
  show zB _ _ _ _ _ _ [_] _ _
  refine z_zret rfl rfl (by omega) ?_
  show zB _ _ _ _ _ _ [_] _ _
  refine z_if_eq (t := 43) (pc2 := 8) rfl rfl rfl (by omega) (fun c5 => ?_) (fun c5 => ?_)
  ·
    refine z_iconst (pc2 := 44) rfl rfl ?_
    refine z_iret rfl rfl ?_
    exact hK _ _ _ (by repeat (first | exact zFr_rf _ | assumption | refine zFr_a ?_ (by decide) | refine zFr_f ?_ (by decide) | refine zFr_n ?_ (by omega) | refine zFr_h ?_ (by omega) | refine zFr_tok ?_ (by omega)))
  ·
    refine z_iload_n (pc2 := 9) rfl rfl rfl ?_
    refine z_i2l (pc2 := 10) rfl rfl (by omega) ?_
    refine z_lconst 0 (pc2 := 11) rfl rfl rfl ?_
    refine z_ldc2 (4) (pc2 := 14) rfl rfl rfl ?_
    refine z_callS (y2 := 157) (as := [_, _, _]) (rest := []) (pc2 := 17) rfl rfl rfl rfl ?_
    refine m_in (by omega) (by omega) (by omega) (fun e6 e6a e6b e6c => ?_)
    show zB _ _ _ _ _ _ [_] _ _
    refine z_if_eq (t := 43) (pc2 := 20) rfl rfl rfl (by omega) (fun c7 => ?_) (fun c7 => ?_)
    ·
      refine z_iconst (pc2 := 44) rfl rfl ?_
      refine z_iret rfl rfl ?_
      exact hK _ _ _ (by repeat (first | exact zFr_rf _ | assumption | refine zFr_a ?_ (by decide) | refine zFr_f ?_ (by decide) | refine zFr_n ?_ (by omega) | refine zFr_h ?_ (by omega) | refine zFr_tok ?_ (by omega)))
    ·
      refine z_aload_n (pc2 := 21) rfl rfl rfl ?_
      refine z_getP (pc2 := 24) rfl rfl rfl rfl t56 ?_
      intro p8 p8e p8k; replace p8k : p8 = some 57 := p8k; clear p8e; subst p8k
      refine z_aload_n (pc2 := 25) rfl rfl rfl ?_
      refine z_callV (y2 := 162) (as := []) (rest := [_]) (pc2 := 28) rfl rfl rfl rfl t56 rfl ?_
      refine z_inl ?_
      refine z_lv (lv2 := [(0, _)]) ⟨rfl, trivial⟩ ?_
      refine z_ldc (56100) (pc2 := 2) rfl rfl rfl ?_
      refine z_aload_n (pc2 := 3) rfl rfl rfl ?_
      refine z_getI (pc2 := 6) 0 rfl rfl rfl rfl rfl t56 ?_
      intro v9 e9 r9 k9
      clear e9
      replace k9 : (0 : Int) ≤ v9 ∧ v9 ≤ 1 := k9; clear r9
      refine z_imul (pc2 := 7) rfl rfl ?_
      refine z_iret rfl rfl ?_
      show zB _ _ _ _ _ _ [_, _] _ _
      refine z_sipush (pc2 := 31) rfl rfl (by decide) ?_
      refine z_iadd (pc2 := 32) rfl rfl ?_
      refine z_bipush (pc2 := 34) rfl rfl (by decide) ?_
      refine z_iload_n (pc2 := 35) rfl rfl rfl ?_
      refine z_imul (pc2 := 36) rfl rfl ?_
      refine z_iadd (pc2 := 37) rfl rfl ?_
      refine z_iload_n (pc2 := 38) rfl rfl rfl ?_
      refine z_iadd (pc2 := 39) rfl rfl ?_
      refine z_iald (pc2 := 40) rfl rfl t57 (by omega) (by omega) (by decide) ?_
      intro v10 e10 r10 k10
      clear e10
      clear k10
      refine z_goto (pc2 := 44) rfl rfl ?_
      refine z_iret rfl rfl ?_
      exact hK _ _ _ (by repeat (first | exact zFr_rf _ | assumption | refine zFr_a ?_ (by decide) | refine zFr_f ?_ (by decide) | refine zFr_n ?_ (by omega) | refine zFr_h ?_ (by omega) | refine zFr_tok ?_ (by omega)))
set_option maxHeartbeats 8000000 in
theorem m_noteOf {L : Nat} {xs : Nat → Int32} {n sl : Nat} {T : Nat → zT} {I : Nat → Nat → Int} {P : Nat → Nat → Option Nat} {G : Nat → Nat → Int} {K : List zV → zH → Prop} {a b : Int} (hT : ∀ a, 56 ≤ a → a ≤ 90 → T a = zFix a) (ha : zR a) (hb : zR b) (hK : ∀ e I2 G2, zFr I I2 → K [.inl e] (n, sl, T, I2, P, G2)) : zX zMd L xs 255 [.inr (.inl (some 56)), .inl a, .inl b] (n, sl, T, I, P, G) K := by
  have t56 : T 56 = (1, 12, [1]) := hT 56 (by decide) (by decide)
  have t57 : T 57 = (2, 0, [112200, 1]) := hT 57 (by decide) (by decide)
  refine z_inl ?_
  refine z_lv (lv2 := [(0, _), (1, _), (2, _)]) ⟨rfl, rfl, rfl, trivial⟩ ?_
  refine z_aload_n (pc2 := 1) rfl rfl rfl ?_
  refine z_iload_n (pc2 := 2) rfl rfl rfl ?_
  refine z_callV (y2 := 253) (as := [_]) (rest := []) (pc2 := 5) rfl rfl rfl rfl t56 rfl ?_
  refine z_inl ?_
  refine z_lv (lv2 := [(0, _), (1, _)]) ⟨rfl, rfl, trivial⟩ ?_
  refine z_iload_n (pc2 := 1) rfl rfl rfl ?_
  refine z_i2l (pc2 := 2) rfl rfl (by omega) ?_
  refine z_lconst 0 (pc2 := 3) rfl rfl rfl ?_
  refine z_aload_n (pc2 := 4) rfl rfl rfl ?_
  refine z_getP (pc2 := 7) rfl rfl rfl rfl t56 ?_
  intro p1 p1e p1k; replace p1k : p1 = some 57 := p1k; clear p1e; subst p1k
  refine z_aload_n (pc2 := 8) rfl rfl rfl ?_
  refine z_callV (y2 := 162) (as := []) (rest := [_, _, _]) (pc2 := 11) rfl rfl rfl rfl t56 rfl ?_
  refine z_inl ?_
  refine z_lv (lv2 := [(0, _)]) ⟨rfl, trivial⟩ ?_
  refine z_ldc (56100) (pc2 := 2) rfl rfl rfl ?_
  refine z_aload_n (pc2 := 3) rfl rfl rfl ?_
  refine z_getI (pc2 := 6) 0 rfl rfl rfl rfl rfl t56 ?_
  intro v2 e2 r2 k2
  clear e2
  replace k2 : (0 : Int) ≤ v2 ∧ v2 ≤ 1 := k2; clear r2
  refine z_imul (pc2 := 7) rfl rfl ?_
  refine z_iret rfl rfl ?_
  show zB _ _ _ _ _ _ [_, _, _, _] _ _
  refine z_sipush (pc2 := 14) rfl rfl (by decide) ?_
  refine z_iadd (pc2 := 15) rfl rfl ?_
  refine z_iald (pc2 := 16) rfl rfl t57 (by omega) (by omega) (by decide) ?_
  intro v3 e3 r3 k3
  clear e3
  replace k3 := ok_lines k3 (by omega); clear r3
  refine z_iconst (pc2 := 17) rfl rfl ?_
  refine z_isub (pc2 := 18) rfl rfl ?_
  refine z_i2l (pc2 := 19) rfl rfl (by omega) ?_
  refine z_callS (y2 := 157) (as := [_, _, _]) (rest := []) (pc2 := 22) rfl rfl rfl rfl ?_
  refine m_in (by omega) (by omega) (by omega) (fun e4 e4a e4b e4c => ?_)
  show zB _ _ _ _ _ _ [_] _ _
  refine z_zret rfl rfl (by omega) ?_
  show zB _ _ _ _ _ _ [_] _ _
  refine z_if_ne (t := 10) (pc2 := 8) rfl rfl rfl (by omega) (fun c5 => ?_) (fun c5 => ?_)
  ·
    refine z_aload_n (pc2 := 11) rfl rfl rfl ?_
    refine z_callV (y2 := 162) (as := []) (rest := []) (pc2 := 14) rfl rfl rfl rfl t56 rfl ?_
    refine z_inl ?_
    refine z_lv (lv2 := [(0, _)]) ⟨rfl, trivial⟩ ?_
    refine z_ldc (56100) (pc2 := 2) rfl rfl rfl ?_
    refine z_aload_n (pc2 := 3) rfl rfl rfl ?_
    refine z_getI (pc2 := 6) 0 rfl rfl rfl rfl rfl t56 ?_
    intro v6 e6 r6 k6
    clear e6
    replace k6 : (0 : Int) ≤ v6 ∧ v6 ≤ 1 := k6; clear r6
    refine z_imul (pc2 := 7) rfl rfl ?_
    refine z_iret rfl rfl ?_
    show zB _ _ _ _ _ _ [_] _ _
    refine z_sipush (pc2 := 17) rfl rfl (by decide) ?_
    refine z_iadd (pc2 := 18) rfl rfl ?_
    refine z_bipush (pc2 := 20) rfl rfl (by decide) ?_
    refine z_iload_n (pc2 := 21) rfl rfl rfl ?_
    refine z_imul (pc2 := 22) rfl rfl ?_
    refine z_iadd (pc2 := 23) rfl rfl ?_
    refine z_istore_n (lv2 := [(3, _), (0, _), (1, _), (2, _)]) (pc2 := 24) rfl rfl rfl rfl ?_
    refine z_iload_n (pc2 := 25) rfl rfl rfl ?_
    refine z_i2l (pc2 := 26) rfl rfl (by omega) ?_
    refine z_lconst 0 (pc2 := 27) rfl rfl rfl ?_
    refine z_aload_n (pc2 := 28) rfl rfl rfl ?_
    refine z_getP (pc2 := 31) rfl rfl rfl rfl t56 ?_
    intro p7 p7e p7k; replace p7k : p7 = some 57 := p7k; clear p7e; subst p7k
    refine z_iload_n (pc2 := 32) rfl rfl rfl ?_
    refine z_iconst (pc2 := 33) rfl rfl ?_
    refine z_iadd (pc2 := 34) rfl rfl ?_
    refine z_iald (pc2 := 35) rfl rfl t57 (by omega) (by omega) (by decide) ?_
    intro v8 e8 r8 k8
    clear e8
    replace k8 := ok_pn k8 (by omega); clear r8
    refine z_iconst (pc2 := 36) rfl rfl ?_
    refine z_isub (pc2 := 37) rfl rfl ?_
    refine z_i2l (pc2 := 38) rfl rfl (by omega) ?_
    refine z_callS (y2 := 157) (as := [_, _, _]) (rest := []) (pc2 := 41) rfl rfl rfl rfl ?_
    refine m_in (by omega) (by omega) (by omega) (fun e9 e9a e9b e9c => ?_)
    show zB _ _ _ _ _ _ [_] _ _
    refine z_if_eq (t := 57) (pc2 := 44) rfl rfl rfl (by omega) (fun c10 => ?_) (fun c10 => ?_)
    ·
      refine z_bipush (pc2 := 59) rfl rfl (by decide) ?_
      refine z_iret rfl rfl ?_
      exact hK _ _ _ (by repeat (first | exact zFr_rf _ | assumption | refine zFr_a ?_ (by decide) | refine zFr_f ?_ (by decide) | refine zFr_n ?_ (by omega) | refine zFr_h ?_ (by omega) | refine zFr_tok ?_ (by omega)))
    ·
      refine z_aload_n (pc2 := 45) rfl rfl rfl ?_
      refine z_getP (pc2 := 48) rfl rfl rfl rfl t56 ?_
      intro p11 p11e p11k; replace p11k : p11 = some 57 := p11k; clear p11e; subst p11k
      refine z_iload_n (pc2 := 49) rfl rfl rfl ?_
      refine z_iconst (pc2 := 50) rfl rfl ?_
      refine z_iadd (pc2 := 51) rfl rfl ?_
      refine z_iload_n (pc2 := 52) rfl rfl rfl ?_
      refine z_iadd (pc2 := 53) rfl rfl ?_
      refine z_iald (pc2 := 54) rfl rfl t57 (by omega) (by omega) (by decide) ?_
      intro v12 e12 r12 k12
      clear e12
      clear k12
      refine z_goto (pc2 := 59) rfl rfl ?_
      refine z_iret rfl rfl ?_
      exact hK _ _ _ (by repeat (first | exact zFr_rf _ | assumption | refine zFr_a ?_ (by decide) | refine zFr_f ?_ (by decide) | refine zFr_n ?_ (by omega) | refine zFr_h ?_ (by omega) | refine zFr_tok ?_ (by omega)))
  ·
    refine z_iconst (pc2 := 9) rfl rfl ?_
    refine z_iret rfl rfl ?_
    exact hK _ _ _ (by repeat (first | exact zFr_rf _ | assumption | refine zFr_a ?_ (by decide) | refine zFr_f ?_ (by decide) | refine zFr_n ?_ (by omega) | refine zFr_h ?_ (by omega) | refine zFr_tok ?_ (by omega)))
set_option maxHeartbeats 8000000 in
theorem m_join {L : Nat} {xs : Nat → Int32} {n sl : Nat} {T : Nat → zT} {I : Nat → Nat → Int} {P : Nat → Nat → Option Nat} {G : Nat → Nat → Int} {K : List zV → zH → Prop} {a b c d e : Int} (hT : ∀ a, 56 ≤ a → a ≤ 90 → T a = zFix a) (ha : zR a) (hb : zR b) (hc : zR c) (hd : zR d) (he : zR e) (hK : ∀ e I2 G2, zFr I I2 → K [.inl e] (n, sl, T, I2, P, G2)) : zX zMd L xs 202 [.inr (.inl (some 56)), .inl a, .inl b, .inl c, .inl d, .inl e] (n, sl, T, I, P, G) K := by
  have t56 : T 56 = (1, 12, [1]) := hT 56 (by decide) (by decide)
  have t59 : T 59 = (2, 2, [2, 0]) := hT 59 (by decide) (by decide)
  have t61 : T 61 = (2, 0, [8, 2]) := hT 61 (by decide) (by decide)
  have t65 : T 65 = (2, 0, [8, 3]) := hT 65 (by decide) (by decide)
  have t66 : T 66 = (2, 0, [48, 4]) := hT 66 (by decide) (by decide)
  have t67 : T 67 = (2, 0, [48, 4]) := hT 67 (by decide) (by decide)
  have t68 : T 68 = (2, 0, [48, 5]) := hT 68 (by decide) (by decide)
  have t69 : T 69 = (2, 0, [48, 0]) := hT 69 (by decide) (by decide)
  refine z_inl ?_
  refine z_lv (lv2 := [(0, _), (1, _), (2, _), (3, _), (4, _), (5, _)]) ⟨rfl, rfl, rfl, rfl, rfl, rfl, trivial⟩ ?_
  refine z_iload_n (pc2 := 1) rfl rfl rfl ?_
  refine z_callS (y2 := 164) (as := [_]) (rest := []) (pc2 := 4) rfl rfl rfl rfl ?_
  refine z_inl ?_
  refine z_lv (lv2 := [(0, _)]) ⟨rfl, trivial⟩ ?_
  refine z_iload_n (pc2 := 1) rfl rfl rfl ?_
  refine z_i2l (pc2 := 2) rfl rfl (by omega) ?_
  refine z_lconst 0 (pc2 := 3) rfl rfl rfl ?_
  refine z_ldc2 (3) (pc2 := 6) rfl rfl rfl ?_
  refine z_callS (y2 := 157) (as := [_, _, _]) (rest := []) (pc2 := 9) rfl rfl rfl rfl ?_
  refine m_in (by omega) (by omega) (by omega) (fun e1 e1a e1b e1c => ?_)
  show zB _ _ _ _ _ _ [_] _ _
  refine z_zret rfl rfl (by omega) ?_
  show zB _ _ _ _ _ _ [_] _ _
  refine z_if_eq (t := 20) (pc2 := 7) rfl rfl rfl (by omega) (fun c2 => ?_) (fun c2 => ?_)
  ·
    refine z_aload_n (pc2 := 21) rfl rfl rfl ?_
    refine z_iconst (pc2 := 22) rfl rfl ?_
    refine z_callV (y2 := 159) (as := [_]) (rest := []) (pc2 := 25) rfl rfl rfl rfl t56 rfl ?_
    refine z_inl ?_
    refine z_lv (lv2 := [(0, _), (1, _)]) ⟨rfl, rfl, trivial⟩ ?_
    refine z_aload_n (pc2 := 1) rfl rfl rfl ?_
    refine z_iload_n (pc2 := 2) rfl rfl rfl ?_
    refine z_putI (pc2 := 5) rfl rfl rfl rfl rfl rfl t56 (by omega) True.intro ?_
    refine z_iload_n (pc2 := 6) rfl rfl rfl ?_
    refine z_iret rfl rfl ?_
    show zB _ _ _ _ _ _ [_] _ _
    refine z_iret rfl rfl ?_
    exact hK _ _ _ (by repeat (first | exact zFr_rf _ | assumption | refine zFr_a ?_ (by decide) | refine zFr_f ?_ (by decide) | refine zFr_n ?_ (by omega) | refine zFr_h ?_ (by omega) | refine zFr_tok ?_ (by omega)))
  ·
    refine z_iload (pc2 := 9) rfl rfl rfl ?_
    refine z_i2l (pc2 := 10) rfl rfl (by omega) ?_
    refine z_lconst 1 (pc2 := 11) rfl rfl rfl ?_
    refine z_ldc2 (60) (pc2 := 14) rfl rfl rfl ?_
    refine z_callS (y2 := 157) (as := [_, _, _]) (rest := []) (pc2 := 17) rfl rfl rfl rfl ?_
    refine m_in (by omega) (by omega) (by omega) (fun e3 e3a e3b e3c => ?_)
    show zB _ _ _ _ _ _ [_] _ _
    refine z_if_ne (t := 26) (pc2 := 20) rfl rfl rfl (by omega) (fun c4 => ?_) (fun c4 => ?_)
    ·
      refine z_aload_n (pc2 := 27) rfl rfl rfl ?_
      refine z_iload_n (pc2 := 28) rfl rfl rfl ?_
      refine z_callV (y2 := 163) (as := [_]) (rest := []) (pc2 := 31) rfl rfl rfl rfl t56 rfl ?_
      refine z_inl ?_
      refine z_lv (lv2 := [(0, _), (1, _)]) ⟨rfl, rfl, trivial⟩ ?_
      refine z_iconst (pc2 := 1) rfl rfl ?_
      refine z_aload_n (pc2 := 2) rfl rfl rfl ?_
      refine z_getI (pc2 := 5) 0 rfl rfl rfl rfl rfl t56 ?_
      intro v5 e5 r5 k5
      clear e5
      replace k5 : (0 : Int) ≤ v5 ∧ v5 ≤ 1 := k5; clear r5
      refine z_imul (pc2 := 6) rfl rfl ?_
      refine z_iload_n (pc2 := 7) rfl rfl rfl ?_
      refine z_iadd (pc2 := 8) rfl rfl ?_
      refine z_iret rfl rfl ?_
      show zB _ _ _ _ _ _ [_] _ _
      refine z_istore (lv2 := [(6, _), (0, _), (1, _), (2, _), (3, _), (4, _), (5, _)]) (pc2 := 33) rfl rfl rfl rfl ?_
      refine z_aload_n (pc2 := 34) rfl rfl rfl ?_
      refine z_iload_n (pc2 := 35) rfl rfl rfl ?_
      refine z_callV (y2 := 186) (as := [_]) (rest := []) (pc2 := 38) rfl rfl rfl rfl t56 rfl ?_
      refine m_outOf hT (by omega) (fun w6 => ?_)
      show zB _ _ _ _ _ _ [_] _ _
      refine z_if_any (t := 48) (pc2 := 41) rfl rfl rfl ?_ ?_
      ·
        refine z_aload_n (pc2 := 49) rfl rfl rfl ?_
        refine z_getP (pc2 := 52) rfl rfl rfl rfl t56 ?_
        intro p7 p7e p7k; replace p7k : p7 = some 65 := p7k; clear p7e; subst p7k
        refine z_iload (pc2 := 54) rfl rfl rfl ?_
        refine z_iald (pc2 := 55) rfl rfl t65 (by omega) (by omega) (by decide) ?_
        intro v8 e8 r8 k8
        replace k8 : (0 : Int) ≤ v8 ∧ v8 ≤ 6 := k8; clear r8
        refine z_bipush (pc2 := 57) rfl rfl (by decide) ?_
        refine z_icmp_eq (t := 67) (pc2 := 60) rfl rfl rfl (by omega) (by omega) (fun c9 => ?_) (fun c9 => ?_)
        ·
          refine z_aload_n (pc2 := 68) rfl rfl rfl ?_
          refine z_bipush (pc2 := 70) rfl rfl (by decide) ?_
          refine z_callV (y2 := 159) (as := [_]) (rest := []) (pc2 := 73) rfl rfl rfl rfl t56 rfl ?_
          refine z_inl ?_
          refine z_lv (lv2 := [(0, _), (1, _)]) ⟨rfl, rfl, trivial⟩ ?_
          refine z_aload_n (pc2 := 1) rfl rfl rfl ?_
          refine z_iload_n (pc2 := 2) rfl rfl rfl ?_
          refine z_putI (pc2 := 5) rfl rfl rfl rfl rfl rfl t56 (by omega) True.intro ?_
          refine z_iload_n (pc2 := 6) rfl rfl rfl ?_
          refine z_iret rfl rfl ?_
          show zB _ _ _ _ _ _ [_] _ _
          refine z_iret rfl rfl ?_
          exact hK _ _ _ (by repeat (first | exact zFr_rf _ | assumption | refine zFr_a ?_ (by decide) | refine zFr_f ?_ (by decide) | refine zFr_n ?_ (by omega) | refine zFr_h ?_ (by omega) | refine zFr_tok ?_ (by omega)))
        ·
          refine z_aload_n (pc2 := 61) rfl rfl rfl ?_
          refine z_callV (y2 := 161) (as := []) (rest := []) (pc2 := 64) rfl rfl rfl rfl t56 rfl ?_
          refine z_inl ?_
          refine z_lv (lv2 := [(0, _)]) ⟨rfl, trivial⟩ ?_
          refine z_aload_n (pc2 := 1) rfl rfl rfl ?_
          refine z_getI (pc2 := 4) 0 rfl rfl rfl rfl rfl t56 ?_
          intro v10 e10 r10 k10
          clear e10
          clear k10
          refine z_sipush (pc2 := 7) rfl rfl (by decide) ?_
          refine z_icmp_lt (t := 14) (pc2 := 10) rfl rfl rfl (by omega) (by omega) (fun c11 => ?_) (fun c11 => ?_)
          ·
            refine z_iconst (pc2 := 15) rfl rfl ?_
            refine z_zret rfl rfl (by omega) ?_
            show zB _ _ _ _ _ _ [_] _ _
            refine z_if_eq (t := 74) (pc2 := 67) rfl rfl rfl (by omega) (fun c12 => ?_) (fun c12 => by exfalso; omega)
            refine z_aload_n (pc2 := 75) rfl rfl rfl ?_
            refine z_getP (pc2 := 78) rfl rfl rfl rfl t56 ?_
            intro p13 p13e p13k; replace p13k : p13 = some 61 := p13k; clear p13e; subst p13k
            refine z_iload (pc2 := 80) rfl rfl rfl ?_
            refine z_iald (pc2 := 81) rfl rfl t61 (by omega) (by omega) (by decide) ?_
            intro v14 e14 r14 k14
            clear e14
            replace k14 : (-1 : Int) ≤ v14 ∧ v14 ≤ 24 := k14; clear r14
            refine z_if_ge (t := 90) (pc2 := 84) rfl rfl rfl (by omega) (fun c15 => ?_) (fun c15 => ?_)
            ·
              refine z_iload_n (pc2 := 91) rfl rfl rfl ?_
              refine z_i2l (pc2 := 92) rfl rfl (by omega) ?_
              refine z_lconst 0 (pc2 := 93) rfl rfl rfl ?_
              refine z_aload_n (pc2 := 94) rfl rfl rfl ?_
              refine z_getP (pc2 := 97) rfl rfl rfl rfl t56 ?_
              intro p16 p16e p16k; replace p16k : p16 = some 61 := p16k; clear p16e; subst p16k
              refine z_iload (pc2 := 99) rfl rfl rfl ?_
              refine z_iald (pc2 := 100) rfl rfl t61 (by omega) (by omega) (by decide) ?_
              intro v17 e17 r17 k17
              clear e17
              replace k17 : (-1 : Int) ≤ v17 ∧ v17 ≤ 24 := k17; clear r17
              refine z_iconst (pc2 := 101) rfl rfl ?_
              refine z_isub (pc2 := 102) rfl rfl ?_
              refine z_i2l (pc2 := 103) rfl rfl (by omega) ?_
              refine z_callS (y2 := 157) (as := [_, _, _]) (rest := []) (pc2 := 106) rfl rfl rfl rfl ?_
              refine m_in (by omega) (by omega) (by omega) (fun e18 e18a e18b e18c => ?_)
              show zB _ _ _ _ _ _ [_] _ _
              refine z_if_eq (t := 154) (pc2 := 109) rfl rfl rfl (by omega) (fun c19 => ?_) (fun c19 => ?_)
              ·
                refine z_aload_n (pc2 := 155) rfl rfl rfl ?_
                refine z_iconst (pc2 := 156) rfl rfl ?_
                refine z_callV (y2 := 160) (as := [_]) (rest := []) (pc2 := 159) rfl rfl rfl rfl t56 rfl ?_
                refine z_inl ?_
                refine z_lv (lv2 := [(0, _), (1, _)]) ⟨rfl, rfl, trivial⟩ ?_
                refine z_aload_n (pc2 := 1) rfl rfl rfl ?_
                refine z_dup (pc2 := 2) rfl rfl rfl ?_
                refine z_getI (pc2 := 5) 0 rfl rfl rfl rfl rfl t56 ?_
                intro v20 e20 r20 k20
                clear e20
                clear k20
                refine z_iconst (pc2 := 6) rfl rfl ?_
                refine z_iadd (pc2 := 7) rfl rfl ?_
                refine z_putI_any (pc2 := 10) rfl rfl rfl rfl rfl rfl t56 (fun _ _ => True.intro) (fun u21 u21r => ?_); clear u21r
                refine z_aload_n (pc2 := 11) rfl rfl rfl ?_
                refine z_bipush (pc2 := 13) rfl rfl (by decide) ?_
                refine z_iload_n (pc2 := 14) rfl rfl rfl ?_
                refine z_isub (pc2 := 15) rfl rfl ?_
                refine z_putI (pc2 := 18) rfl rfl rfl rfl rfl rfl t56 (by omega) True.intro ?_
                refine z_aload_n (pc2 := 19) rfl rfl rfl ?_
                refine z_getI (pc2 := 22) 0 rfl rfl rfl rfl rfl t56 ?_
                intro v22 e22 r22 k22
                clear e22
                clear k22
                refine z_iret rfl rfl ?_
                show zB _ _ _ _ _ _ [_] _ _
                refine z_iret rfl rfl ?_
                exact hK _ _ _ (by repeat (first | exact zFr_rf _ | assumption | refine zFr_a ?_ (by decide) | refine zFr_f ?_ (by decide) | refine zFr_n ?_ (by omega) | refine zFr_h ?_ (by omega) | refine zFr_tok ?_ (by omega)))
              ·
                refine z_iload_n (pc2 := 110) rfl rfl rfl ?_
                refine z_i2l (pc2 := 111) rfl rfl (by omega) ?_
                refine z_lconst 0 (pc2 := 112) rfl rfl rfl ?_
                refine z_aload_n (pc2 := 113) rfl rfl rfl ?_
                refine z_getP (pc2 := 116) rfl rfl rfl rfl t56 ?_
                intro p23 p23e p23k; replace p23k : p23 = some 61 := p23k; clear p23e; subst p23k
                refine z_iload (pc2 := 118) rfl rfl rfl ?_
                refine z_iald (pc2 := 119) rfl rfl t61 (by omega) (by omega) (by decide) ?_
                intro v24 e24 r24 k24
                clear e24
                replace k24 : (-1 : Int) ≤ v24 ∧ v24 ≤ 24 := k24; clear r24
                refine z_iconst (pc2 := 120) rfl rfl ?_
                refine z_isub (pc2 := 121) rfl rfl ?_
                refine z_i2l (pc2 := 122) rfl rfl (by omega) ?_
                refine z_callS (y2 := 157) (as := [_, _, _]) (rest := []) (pc2 := 125) rfl rfl rfl rfl ?_
                refine m_in (by omega) (by omega) (by omega) (fun e25 e25a e25b e25c => ?_)
                show zB _ _ _ _ _ _ [_] _ _
                refine z_if_eq (t := 154) (pc2 := 128) rfl rfl rfl (by omega) (fun c26 => ?_) (fun c26 => ?_)
                ·
                  refine z_aload_n (pc2 := 155) rfl rfl rfl ?_
                  refine z_iconst (pc2 := 156) rfl rfl ?_
                  refine z_callV (y2 := 160) (as := [_]) (rest := []) (pc2 := 159) rfl rfl rfl rfl t56 rfl ?_
                  refine z_inl ?_
                  refine z_lv (lv2 := [(0, _), (1, _)]) ⟨rfl, rfl, trivial⟩ ?_
                  refine z_aload_n (pc2 := 1) rfl rfl rfl ?_
                  refine z_dup (pc2 := 2) rfl rfl rfl ?_
                  refine z_getI (pc2 := 5) 0 rfl rfl rfl rfl rfl t56 ?_
                  intro v27 e27 r27 k27
                  clear e27
                  clear k27
                  refine z_iconst (pc2 := 6) rfl rfl ?_
                  refine z_iadd (pc2 := 7) rfl rfl ?_
                  refine z_putI_any (pc2 := 10) rfl rfl rfl rfl rfl rfl t56 (fun _ _ => True.intro) (fun u28 u28r => ?_); clear u28r
                  refine z_aload_n (pc2 := 11) rfl rfl rfl ?_
                  refine z_bipush (pc2 := 13) rfl rfl (by decide) ?_
                  refine z_iload_n (pc2 := 14) rfl rfl rfl ?_
                  refine z_isub (pc2 := 15) rfl rfl ?_
                  refine z_putI (pc2 := 18) rfl rfl rfl rfl rfl rfl t56 (by omega) True.intro ?_
                  refine z_aload_n (pc2 := 19) rfl rfl rfl ?_
                  refine z_getI (pc2 := 22) 0 rfl rfl rfl rfl rfl t56 ?_
                  intro v29 e29 r29 k29
                  clear e29
                  clear k29
                  refine z_iret rfl rfl ?_
                  show zB _ _ _ _ _ _ [_] _ _
                  refine z_iret rfl rfl ?_
                  exact hK _ _ _ (by repeat (first | exact zFr_rf _ | assumption | refine zFr_a ?_ (by decide) | refine zFr_f ?_ (by decide) | refine zFr_n ?_ (by omega) | refine zFr_h ?_ (by omega) | refine zFr_tok ?_ (by omega)))
                ·
                  refine z_iload (pc2 := 130) rfl rfl rfl ?_
                  refine z_iconst (pc2 := 131) rfl rfl ?_
                  refine z_icmp_eq (t := 160) (pc2 := 134) rfl rfl rfl (by omega) (by omega) (fun c30 => ?_) (fun c30 => ?_)
                  ·
                    refine z_bipush (pc2 := 162) rfl rfl (by decide) ?_
                    refine z_iload (pc2 := 164) rfl rfl rfl ?_
                    refine z_imul (pc2 := 165) rfl rfl ?_
                    refine z_aload_n (pc2 := 166) rfl rfl rfl ?_
                    refine z_getP (pc2 := 169) rfl rfl rfl rfl t56 ?_
                    intro p31 p31e p31k; replace p31k : p31 = some 65 := p31k; clear p31e; subst p31k
                    refine z_iload (pc2 := 171) rfl rfl rfl ?_
                    refine z_iald (pc2 := 172) rfl rfl t65 (by omega) (by omega) (by decide) ?_
                    intro v32 e32 r32 k32
                    replace k32 : (0 : Int) ≤ v32 ∧ v32 ≤ 6 := k32; clear r32
                    replace e32 : v8 = v32 := by rw [e32]; first | exact e8 | exact Eq.symm e8 | (simp [zU]; first | done | exact e8 | exact Eq.symm e8 | omega)
                    subst e32
                    refine z_iadd (pc2 := 173) rfl rfl ?_
                    refine z_istore (lv2 := [(7, _), (6, _), (0, _), (1, _), (2, _), (3, _), (4, _), (5, _)]) (pc2 := 175) rfl rfl rfl rfl ?_
                    refine z_aload_n (pc2 := 176) rfl rfl rfl ?_
                    refine z_getP (pc2 := 179) rfl rfl rfl rfl t56 ?_
                    intro p33 p33e p33k; replace p33k : p33 = some 66 := p33k; clear p33e; subst p33k
                    refine z_iload (pc2 := 181) rfl rfl rfl ?_
                    refine z_iload_n (pc2 := 182) rfl rfl rfl ?_
                    refine z_iast (pc2 := 183) rfl rfl t66 (by omega) (by omega) (by decide) (by omega) (by show (0 : Int) ≤ _ ∧ _ ≤ 23; omega) ?_
                    refine z_aload_n (pc2 := 184) rfl rfl rfl ?_
                    refine z_getP (pc2 := 187) rfl rfl rfl rfl t56 ?_
                    intro p34 p34e p34k; replace p34k : p34 = some 67 := p34k; clear p34e; subst p34k
                    refine z_iload (pc2 := 189) rfl rfl rfl ?_
                    refine z_iload_n (pc2 := 190) rfl rfl rfl ?_
                    refine z_iast (pc2 := 191) rfl rfl t67 (by omega) (by omega) (by decide) (by omega) (by show (0 : Int) ≤ _ ∧ _ ≤ 23; omega) ?_
                    refine z_aload_n (pc2 := 192) rfl rfl rfl ?_
                    refine z_getP (pc2 := 195) rfl rfl rfl rfl t56 ?_
                    intro p35 p35e p35k; replace p35k : p35 = some 68 := p35k; clear p35e; subst p35k
                    refine z_iload (pc2 := 197) rfl rfl rfl ?_
                    refine z_iload (pc2 := 199) rfl rfl rfl ?_
                    refine z_iast (pc2 := 200) rfl rfl t68 (by omega) (by omega) (by decide) (by omega) (by show (-1 : Int) ≤ _ ∧ _ ≤ 23; omega) ?_
                    refine z_aload_n (pc2 := 201) rfl rfl rfl ?_
                    refine z_getP (pc2 := 204) rfl rfl rfl rfl t56 ?_
                    intro p36 p36e p36k; replace p36k : p36 = some 69 := p36k; clear p36e; subst p36k
                    refine z_iload (pc2 := 206) rfl rfl rfl ?_
                    refine z_iload (pc2 := 208) rfl rfl rfl ?_
                    refine z_iast (pc2 := 209) rfl rfl t69 (by omega) (by omega) (by decide) (by omega) True.intro ?_
                    refine z_aload_n (pc2 := 210) rfl rfl rfl ?_
                    refine z_getP (pc2 := 213) rfl rfl rfl rfl t56 ?_
                    intro p37 p37e p37k; replace p37k : p37 = some 65 := p37k; clear p37e; subst p37k
                    refine z_iload (pc2 := 215) rfl rfl rfl ?_
                    refine z_dup2 (pc2 := 216) rfl rfl rfl rfl ?_
                    refine z_iald (pc2 := 217) rfl rfl t65 (by omega) (by omega) (by decide) ?_
                    intro v38 e38 r38 k38
                    replace k38 : (0 : Int) ≤ v38 ∧ v38 ≤ 6 := k38; clear r38
                    replace e38 : v8 = v38 := by rw [e38]; first | exact e8 | exact Eq.symm e8 | (simp [zU]; first | done | exact e8 | exact Eq.symm e8 | omega)
                    subst e38
                    refine z_iconst (pc2 := 218) rfl rfl ?_
                    refine z_iadd (pc2 := 219) rfl rfl ?_
                    refine z_iast (pc2 := 220) rfl rfl t65 (by omega) (by omega) (by decide) (by omega) (by show (0 : Int) ≤ _ ∧ _ ≤ 6; omega) ?_
                    refine z_aload_n (pc2 := 221) rfl rfl rfl ?_
                    refine z_aload_n (pc2 := 222) rfl rfl rfl ?_
                    refine z_getP (pc2 := 225) rfl rfl rfl rfl t56 ?_
                    intro p39 p39e p39k; replace p39k : p39 = some 65 := p39k; clear p39e; subst p39k
                    refine z_iload (pc2 := 227) rfl rfl rfl ?_
                    refine z_iald (pc2 := 228) rfl rfl t65 (by omega) (by omega) (by decide) ?_
                    intro v40 e40 r40 k40
                    replace k40 : (0 : Int) ≤ v40 ∧ v40 ≤ 6 := k40; clear r40
                    refine z_iconst (pc2 := 229) rfl rfl ?_
                    refine z_isub (pc2 := 230) rfl rfl ?_
                    refine z_callV (y2 := 198) (as := [_]) (rest := []) (pc2 := 233) rfl rfl rfl rfl t56 rfl ?_
                    refine z_inl ?_
                    refine z_lv (lv2 := [(0, _), (1, _)]) ⟨rfl, rfl, trivial⟩ ?_
                    refine z_aload_n (pc2 := 1) rfl rfl rfl ?_
                    refine z_callV (y2 := 168) (as := []) (rest := []) (pc2 := 4) rfl rfl rfl rfl t56 rfl ?_
                    refine z_inl ?_
                    refine z_lv (lv2 := [(0, _)]) ⟨rfl, trivial⟩ ?_
                    refine z_aload_n (pc2 := 1) rfl rfl rfl ?_
                    refine z_getP (pc2 := 4) rfl rfl rfl rfl t56 ?_
                    intro p41 p41e p41k; replace p41k : p41 = some 59 := p41k; clear p41e; subst p41k
                    refine z_aload_n (pc2 := 5) rfl rfl rfl ?_
                    refine z_getI (pc2 := 8) 0 rfl rfl rfl rfl rfl t56 ?_
                    intro v42 e42 r42 k42
                    clear e42
                    replace k42 : (0 : Int) ≤ v42 ∧ v42 ≤ 1 := k42; clear r42
                    refine z_iconst (pc2 := 9) rfl rfl ?_
                    refine z_bast (pc2 := 10) rfl rfl t59 (by omega) (by omega) (by decide) (by omega) True.intro ?_
                    refine z_ret rfl rfl ?_
                    show zB _ _ _ _ _ _ [] _ _
                    refine z_aload_n (pc2 := 5) rfl rfl rfl ?_
                    refine z_iload_n (pc2 := 6) rfl rfl rfl ?_
                    refine z_callV (y2 := 158) (as := [_]) (rest := []) (pc2 := 9) rfl rfl rfl rfl t56 rfl ?_
                    refine z_inl ?_
                    refine z_lv (lv2 := [(0, _), (1, _)]) ⟨rfl, rfl, trivial⟩ ?_
                    refine z_aload_n (pc2 := 1) rfl rfl rfl ?_
                    refine z_iconst (pc2 := 2) rfl rfl ?_
                    refine z_putI (pc2 := 5) rfl rfl rfl rfl rfl rfl t56 (by omega) True.intro ?_
                    refine z_iload_n (pc2 := 6) rfl rfl rfl ?_
                    refine z_iret rfl rfl ?_
                    show zB _ _ _ _ _ _ [_] _ _
                    refine z_iret rfl rfl ?_
                    show zB _ _ _ _ _ _ [_] _ _
                    refine z_iret rfl rfl ?_
                    exact hK _ _ _ (by repeat (first | exact zFr_rf _ | assumption | refine zFr_a ?_ (by decide) | refine zFr_f ?_ (by decide) | refine zFr_n ?_ (by omega) | refine zFr_h ?_ (by omega) | refine zFr_tok ?_ (by omega)))
                  ·
                    refine z_iload (pc2 := 136) rfl rfl rfl ?_
                    refine z_i2l (pc2 := 137) rfl rfl (by omega) ?_
                    refine z_lconst 0 (pc2 := 138) rfl rfl rfl ?_
                    refine z_aload_n (pc2 := 139) rfl rfl rfl ?_
                    refine z_getP (pc2 := 142) rfl rfl rfl rfl t56 ?_
                    intro p43 p43e p43k; replace p43k : p43 = some 61 := p43k; clear p43e; subst p43k
                    refine z_iload (pc2 := 144) rfl rfl rfl ?_
                    refine z_iald (pc2 := 145) rfl rfl t61 (by omega) (by omega) (by decide) ?_
                    intro v44 e44 r44 k44
                    clear e44
                    replace k44 : (-1 : Int) ≤ v44 ∧ v44 ≤ 24 := k44; clear r44
                    refine z_iconst (pc2 := 146) rfl rfl ?_
                    refine z_isub (pc2 := 147) rfl rfl ?_
                    refine z_i2l (pc2 := 148) rfl rfl (by omega) ?_
                    refine z_callS (y2 := 157) (as := [_, _, _]) (rest := []) (pc2 := 151) rfl rfl rfl rfl ?_
                    refine m_in (by omega) (by omega) (by omega) (fun e45 e45a e45b e45c => ?_)
                    show zB _ _ _ _ _ _ [_] _ _
                    refine z_if_ne (t := 160) (pc2 := 154) rfl rfl rfl (by omega) (fun c46 => ?_) (fun c46 => ?_)
                    ·
                      refine z_bipush (pc2 := 162) rfl rfl (by decide) ?_
                      refine z_iload (pc2 := 164) rfl rfl rfl ?_
                      refine z_imul (pc2 := 165) rfl rfl ?_
                      refine z_aload_n (pc2 := 166) rfl rfl rfl ?_
                      refine z_getP (pc2 := 169) rfl rfl rfl rfl t56 ?_
                      intro p47 p47e p47k; replace p47k : p47 = some 65 := p47k; clear p47e; subst p47k
                      refine z_iload (pc2 := 171) rfl rfl rfl ?_
                      refine z_iald (pc2 := 172) rfl rfl t65 (by omega) (by omega) (by decide) ?_
                      intro v48 e48 r48 k48
                      replace k48 : (0 : Int) ≤ v48 ∧ v48 ≤ 6 := k48; clear r48
                      replace e48 : v8 = v48 := by rw [e48]; first | exact e8 | exact Eq.symm e8 | (simp [zU]; first | done | exact e8 | exact Eq.symm e8 | omega)
                      subst e48
                      refine z_iadd (pc2 := 173) rfl rfl ?_
                      refine z_istore (lv2 := [(7, _), (6, _), (0, _), (1, _), (2, _), (3, _), (4, _), (5, _)]) (pc2 := 175) rfl rfl rfl rfl ?_
                      refine z_aload_n (pc2 := 176) rfl rfl rfl ?_
                      refine z_getP (pc2 := 179) rfl rfl rfl rfl t56 ?_
                      intro p49 p49e p49k; replace p49k : p49 = some 66 := p49k; clear p49e; subst p49k
                      refine z_iload (pc2 := 181) rfl rfl rfl ?_
                      refine z_iload_n (pc2 := 182) rfl rfl rfl ?_
                      refine z_iast (pc2 := 183) rfl rfl t66 (by omega) (by omega) (by decide) (by omega) (by show (0 : Int) ≤ _ ∧ _ ≤ 23; omega) ?_
                      refine z_aload_n (pc2 := 184) rfl rfl rfl ?_
                      refine z_getP (pc2 := 187) rfl rfl rfl rfl t56 ?_
                      intro p50 p50e p50k; replace p50k : p50 = some 67 := p50k; clear p50e; subst p50k
                      refine z_iload (pc2 := 189) rfl rfl rfl ?_
                      refine z_iload_n (pc2 := 190) rfl rfl rfl ?_
                      refine z_iast (pc2 := 191) rfl rfl t67 (by omega) (by omega) (by decide) (by omega) (by show (0 : Int) ≤ _ ∧ _ ≤ 23; omega) ?_
                      refine z_aload_n (pc2 := 192) rfl rfl rfl ?_
                      refine z_getP (pc2 := 195) rfl rfl rfl rfl t56 ?_
                      intro p51 p51e p51k; replace p51k : p51 = some 68 := p51k; clear p51e; subst p51k
                      refine z_iload (pc2 := 197) rfl rfl rfl ?_
                      refine z_iload (pc2 := 199) rfl rfl rfl ?_
                      refine z_iast (pc2 := 200) rfl rfl t68 (by omega) (by omega) (by decide) (by omega) (by show (-1 : Int) ≤ _ ∧ _ ≤ 23; omega) ?_
                      refine z_aload_n (pc2 := 201) rfl rfl rfl ?_
                      refine z_getP (pc2 := 204) rfl rfl rfl rfl t56 ?_
                      intro p52 p52e p52k; replace p52k : p52 = some 69 := p52k; clear p52e; subst p52k
                      refine z_iload (pc2 := 206) rfl rfl rfl ?_
                      refine z_iload (pc2 := 208) rfl rfl rfl ?_
                      refine z_iast (pc2 := 209) rfl rfl t69 (by omega) (by omega) (by decide) (by omega) True.intro ?_
                      refine z_aload_n (pc2 := 210) rfl rfl rfl ?_
                      refine z_getP (pc2 := 213) rfl rfl rfl rfl t56 ?_
                      intro p53 p53e p53k; replace p53k : p53 = some 65 := p53k; clear p53e; subst p53k
                      refine z_iload (pc2 := 215) rfl rfl rfl ?_
                      refine z_dup2 (pc2 := 216) rfl rfl rfl rfl ?_
                      refine z_iald (pc2 := 217) rfl rfl t65 (by omega) (by omega) (by decide) ?_
                      intro v54 e54 r54 k54
                      replace k54 : (0 : Int) ≤ v54 ∧ v54 ≤ 6 := k54; clear r54
                      replace e54 : v8 = v54 := by rw [e54]; first | exact e8 | exact Eq.symm e8 | (simp [zU]; first | done | exact e8 | exact Eq.symm e8 | omega)
                      subst e54
                      refine z_iconst (pc2 := 218) rfl rfl ?_
                      refine z_iadd (pc2 := 219) rfl rfl ?_
                      refine z_iast (pc2 := 220) rfl rfl t65 (by omega) (by omega) (by decide) (by omega) (by show (0 : Int) ≤ _ ∧ _ ≤ 6; omega) ?_
                      refine z_aload_n (pc2 := 221) rfl rfl rfl ?_
                      refine z_aload_n (pc2 := 222) rfl rfl rfl ?_
                      refine z_getP (pc2 := 225) rfl rfl rfl rfl t56 ?_
                      intro p55 p55e p55k; replace p55k : p55 = some 65 := p55k; clear p55e; subst p55k
                      refine z_iload (pc2 := 227) rfl rfl rfl ?_
                      refine z_iald (pc2 := 228) rfl rfl t65 (by omega) (by omega) (by decide) ?_
                      intro v56 e56 r56 k56
                      replace k56 : (0 : Int) ≤ v56 ∧ v56 ≤ 6 := k56; clear r56
                      refine z_iconst (pc2 := 229) rfl rfl ?_
                      refine z_isub (pc2 := 230) rfl rfl ?_
                      refine z_callV (y2 := 198) (as := [_]) (rest := []) (pc2 := 233) rfl rfl rfl rfl t56 rfl ?_
                      refine z_inl ?_
                      refine z_lv (lv2 := [(0, _), (1, _)]) ⟨rfl, rfl, trivial⟩ ?_
                      refine z_aload_n (pc2 := 1) rfl rfl rfl ?_
                      refine z_callV (y2 := 168) (as := []) (rest := []) (pc2 := 4) rfl rfl rfl rfl t56 rfl ?_
                      refine z_inl ?_
                      refine z_lv (lv2 := [(0, _)]) ⟨rfl, trivial⟩ ?_
                      refine z_aload_n (pc2 := 1) rfl rfl rfl ?_
                      refine z_getP (pc2 := 4) rfl rfl rfl rfl t56 ?_
                      intro p57 p57e p57k; replace p57k : p57 = some 59 := p57k; clear p57e; subst p57k
                      refine z_aload_n (pc2 := 5) rfl rfl rfl ?_
                      refine z_getI (pc2 := 8) 0 rfl rfl rfl rfl rfl t56 ?_
                      intro v58 e58 r58 k58
                      clear e58
                      replace k58 : (0 : Int) ≤ v58 ∧ v58 ≤ 1 := k58; clear r58
                      refine z_iconst (pc2 := 9) rfl rfl ?_
                      refine z_bast (pc2 := 10) rfl rfl t59 (by omega) (by omega) (by decide) (by omega) True.intro ?_
                      refine z_ret rfl rfl ?_
                      show zB _ _ _ _ _ _ [] _ _
                      refine z_aload_n (pc2 := 5) rfl rfl rfl ?_
                      refine z_iload_n (pc2 := 6) rfl rfl rfl ?_
                      refine z_callV (y2 := 158) (as := [_]) (rest := []) (pc2 := 9) rfl rfl rfl rfl t56 rfl ?_
                      refine z_inl ?_
                      refine z_lv (lv2 := [(0, _), (1, _)]) ⟨rfl, rfl, trivial⟩ ?_
                      refine z_aload_n (pc2 := 1) rfl rfl rfl ?_
                      refine z_iconst (pc2 := 2) rfl rfl ?_
                      refine z_putI (pc2 := 5) rfl rfl rfl rfl rfl rfl t56 (by omega) True.intro ?_
                      refine z_iload_n (pc2 := 6) rfl rfl rfl ?_
                      refine z_iret rfl rfl ?_
                      show zB _ _ _ _ _ _ [_] _ _
                      refine z_iret rfl rfl ?_
                      show zB _ _ _ _ _ _ [_] _ _
                      refine z_iret rfl rfl ?_
                      exact hK _ _ _ (by repeat (first | exact zFr_rf _ | assumption | refine zFr_a ?_ (by decide) | refine zFr_f ?_ (by decide) | refine zFr_n ?_ (by omega) | refine zFr_h ?_ (by omega) | refine zFr_tok ?_ (by omega)))
                    ·
                      refine z_aload_n (pc2 := 155) rfl rfl rfl ?_
                      refine z_iconst (pc2 := 156) rfl rfl ?_
                      refine z_callV (y2 := 160) (as := [_]) (rest := []) (pc2 := 159) rfl rfl rfl rfl t56 rfl ?_
                      refine z_inl ?_
                      refine z_lv (lv2 := [(0, _), (1, _)]) ⟨rfl, rfl, trivial⟩ ?_
                      refine z_aload_n (pc2 := 1) rfl rfl rfl ?_
                      refine z_dup (pc2 := 2) rfl rfl rfl ?_
                      refine z_getI (pc2 := 5) 0 rfl rfl rfl rfl rfl t56 ?_
                      intro v59 e59 r59 k59
                      clear e59
                      clear k59
                      refine z_iconst (pc2 := 6) rfl rfl ?_
                      refine z_iadd (pc2 := 7) rfl rfl ?_
                      refine z_putI_any (pc2 := 10) rfl rfl rfl rfl rfl rfl t56 (fun _ _ => True.intro) (fun u60 u60r => ?_); clear u60r
                      refine z_aload_n (pc2 := 11) rfl rfl rfl ?_
                      refine z_bipush (pc2 := 13) rfl rfl (by decide) ?_
                      refine z_iload_n (pc2 := 14) rfl rfl rfl ?_
                      refine z_isub (pc2 := 15) rfl rfl ?_
                      refine z_putI (pc2 := 18) rfl rfl rfl rfl rfl rfl t56 (by omega) True.intro ?_
                      refine z_aload_n (pc2 := 19) rfl rfl rfl ?_
                      refine z_getI (pc2 := 22) 0 rfl rfl rfl rfl rfl t56 ?_
                      intro v61 e61 r61 k61
                      clear e61
                      clear k61
                      refine z_iret rfl rfl ?_
                      show zB _ _ _ _ _ _ [_] _ _
                      refine z_iret rfl rfl ?_
                      exact hK _ _ _ (by repeat (first | exact zFr_rf _ | assumption | refine zFr_a ?_ (by decide) | refine zFr_f ?_ (by decide) | refine zFr_n ?_ (by omega) | refine zFr_h ?_ (by omega) | refine zFr_tok ?_ (by omega)))
            ·
              refine z_aload_n (pc2 := 85) rfl rfl rfl ?_
              refine z_iconst (pc2 := 86) rfl rfl ?_
              refine z_callV (y2 := 160) (as := [_]) (rest := []) (pc2 := 89) rfl rfl rfl rfl t56 rfl ?_
              refine z_inl ?_
              refine z_lv (lv2 := [(0, _), (1, _)]) ⟨rfl, rfl, trivial⟩ ?_
              refine z_aload_n (pc2 := 1) rfl rfl rfl ?_
              refine z_dup (pc2 := 2) rfl rfl rfl ?_
              refine z_getI (pc2 := 5) 0 rfl rfl rfl rfl rfl t56 ?_
              intro v62 e62 r62 k62
              clear e62
              clear k62
              refine z_iconst (pc2 := 6) rfl rfl ?_
              refine z_iadd (pc2 := 7) rfl rfl ?_
              refine z_putI_any (pc2 := 10) rfl rfl rfl rfl rfl rfl t56 (fun _ _ => True.intro) (fun u63 u63r => ?_); clear u63r
              refine z_aload_n (pc2 := 11) rfl rfl rfl ?_
              refine z_bipush (pc2 := 13) rfl rfl (by decide) ?_
              refine z_iload_n (pc2 := 14) rfl rfl rfl ?_
              refine z_isub (pc2 := 15) rfl rfl ?_
              refine z_putI (pc2 := 18) rfl rfl rfl rfl rfl rfl t56 (by omega) True.intro ?_
              refine z_aload_n (pc2 := 19) rfl rfl rfl ?_
              refine z_getI (pc2 := 22) 0 rfl rfl rfl rfl rfl t56 ?_
              intro v64 e64 r64 k64
              clear e64
              clear k64
              refine z_iret rfl rfl ?_
              show zB _ _ _ _ _ _ [_] _ _
              refine z_iret rfl rfl ?_
              exact hK _ _ _ (by repeat (first | exact zFr_rf _ | assumption | refine zFr_a ?_ (by decide) | refine zFr_f ?_ (by decide) | refine zFr_n ?_ (by omega) | refine zFr_h ?_ (by omega) | refine zFr_tok ?_ (by omega)))
          ·
            refine z_iconst (pc2 := 11) rfl rfl ?_
            refine z_goto (pc2 := 15) rfl rfl ?_
            refine z_zret rfl rfl (by omega) ?_
            show zB _ _ _ _ _ _ [_] _ _
            refine z_if_eq (t := 74) (pc2 := 67) rfl rfl rfl (by omega) (fun c65 => by exfalso; omega) (fun c65 => ?_)
            refine z_aload_n (pc2 := 68) rfl rfl rfl ?_
            refine z_bipush (pc2 := 70) rfl rfl (by decide) ?_
            refine z_callV (y2 := 159) (as := [_]) (rest := []) (pc2 := 73) rfl rfl rfl rfl t56 rfl ?_
            refine z_inl ?_
            refine z_lv (lv2 := [(0, _), (1, _)]) ⟨rfl, rfl, trivial⟩ ?_
            refine z_aload_n (pc2 := 1) rfl rfl rfl ?_
            refine z_iload_n (pc2 := 2) rfl rfl rfl ?_
            refine z_putI (pc2 := 5) rfl rfl rfl rfl rfl rfl t56 (by omega) True.intro ?_
            refine z_iload_n (pc2 := 6) rfl rfl rfl ?_
            refine z_iret rfl rfl ?_
            show zB _ _ _ _ _ _ [_] _ _
            refine z_iret rfl rfl ?_
            exact hK _ _ _ (by repeat (first | exact zFr_rf _ | assumption | refine zFr_a ?_ (by decide) | refine zFr_f ?_ (by decide) | refine zFr_n ?_ (by omega) | refine zFr_h ?_ (by omega) | refine zFr_tok ?_ (by omega)))
      ·
        refine z_aload_n (pc2 := 42) rfl rfl rfl ?_
        refine z_bipush (pc2 := 44) rfl rfl (by decide) ?_
        refine z_callV (y2 := 159) (as := [_]) (rest := []) (pc2 := 47) rfl rfl rfl rfl t56 rfl ?_
        refine z_inl ?_
        refine z_lv (lv2 := [(0, _), (1, _)]) ⟨rfl, rfl, trivial⟩ ?_
        refine z_aload_n (pc2 := 1) rfl rfl rfl ?_
        refine z_iload_n (pc2 := 2) rfl rfl rfl ?_
        refine z_putI (pc2 := 5) rfl rfl rfl rfl rfl rfl t56 (by omega) True.intro ?_
        refine z_iload_n (pc2 := 6) rfl rfl rfl ?_
        refine z_iret rfl rfl ?_
        show zB _ _ _ _ _ _ [_] _ _
        refine z_iret rfl rfl ?_
        exact hK _ _ _ (by repeat (first | exact zFr_rf _ | assumption | refine zFr_a ?_ (by decide) | refine zFr_f ?_ (by decide) | refine zFr_n ?_ (by omega) | refine zFr_h ?_ (by omega) | refine zFr_tok ?_ (by omega)))
    ·
      refine z_aload_n (pc2 := 21) rfl rfl rfl ?_
      refine z_iconst (pc2 := 22) rfl rfl ?_
      refine z_callV (y2 := 159) (as := [_]) (rest := []) (pc2 := 25) rfl rfl rfl rfl t56 rfl ?_
      refine z_inl ?_
      refine z_lv (lv2 := [(0, _), (1, _)]) ⟨rfl, rfl, trivial⟩ ?_
      refine z_aload_n (pc2 := 1) rfl rfl rfl ?_
      refine z_iload_n (pc2 := 2) rfl rfl rfl ?_
      refine z_putI (pc2 := 5) rfl rfl rfl rfl rfl rfl t56 (by omega) True.intro ?_
      refine z_iload_n (pc2 := 6) rfl rfl rfl ?_
      refine z_iret rfl rfl ?_
      show zB _ _ _ _ _ _ [_] _ _
      refine z_iret rfl rfl ?_
      exact hK _ _ _ (by repeat (first | exact zFr_rf _ | assumption | refine zFr_a ?_ (by decide) | refine zFr_f ?_ (by decide) | refine zFr_n ?_ (by omega) | refine zFr_h ?_ (by omega) | refine zFr_tok ?_ (by omega)))
set_option maxHeartbeats 8000000 in
theorem l_fount2 {L : Nat} {xs : Nat → Int32} {n sl : Nat} {T : Nat → zT} {I : Nat → Nat → Int} {P : Nat → Nat → Option Nat} {K : List zV → zH → Prop} {b i : Int} (hT : ∀ a, 56 ≤ a → a ≤ 90 → T a = zFix a) (hb : 0 ≤ b ∧ b ≤ 24) (hi : 0 ≤ i ∧ i ≤ 7) (hK : ∀ e I2 G2, zFr I I2 → K [.inl e] (n, sl, T, I2, P, G2)) (m : Nat) : ∀ (I2 : Nat → Nat → Int) (G2 : Nat → Nat → Int), ∀ (k : Int), 0 ≤ k ∧ k ≤ 4 → zQ (zU I 61 i.toNat b) I2 → (4 - k).toNat < m → zB zMd L xs 196 117 [(0, .inr (.inl (some 56))), (3, .inl i), (4, .inl k)] [] (n, sl, T, I2, P, G2) K := by
  have t56 : T 56 = (1, 12, [1]) := hT 56 (by decide) (by decide)
  have t59 : T 59 = (2, 2, [2, 0]) := hT 59 (by decide) (by decide)
  have t70 : T 70 = (2, 0, [32, 0]) := hT 70 (by decide) (by decide)
  have t71 : T 71 = (2, 0, [8, 0]) := hT 71 (by decide) (by decide)
  have t72 : T 72 = (2, 0, [8, 0]) := hT 72 (by decide) (by decide)
  have t73 : T 73 = (2, 0, [8, 0]) := hT 73 (by decide) (by decide)
  have t74 : T 74 = (2, 0, [8, 13]) := hT 74 (by decide) (by decide)
  induction m with
  | zero => intro I2 G2 k hk hI2 hm; omega
  | succ m ih =>
    intro I2 G2 k hk hI2 hm
    refine z_iload (pc2 := 119) rfl rfl rfl ?_
    refine z_iconst (pc2 := 120) rfl rfl ?_
    refine z_icmp_ge (t := 141) (pc2 := 123) rfl rfl rfl (by omega) (by omega) (fun c1 => ?_) (fun c1 => ?_)
    ·
      refine z_aload_n (pc2 := 142) rfl rfl rfl ?_
      refine z_getP (pc2 := 145) rfl rfl rfl rfl t56 ?_
      intro p2 p2e p2k; replace p2k : p2 = some 71 := p2k; clear p2e; subst p2k
      refine z_iload_n (pc2 := 146) rfl rfl rfl ?_
      refine z_iconst (pc2 := 147) rfl rfl ?_
      refine z_iast (pc2 := 148) rfl rfl t71 (by omega) (by omega) (by decide) (by omega) True.intro ?_
      refine z_aload_n (pc2 := 149) rfl rfl rfl ?_
      refine z_getP (pc2 := 152) rfl rfl rfl rfl t56 ?_
      intro p3 p3e p3k; replace p3k : p3 = some 72 := p3k; clear p3e; subst p3k
      refine z_iload_n (pc2 := 153) rfl rfl rfl ?_
      refine z_iconst (pc2 := 154) rfl rfl ?_
      refine z_iast (pc2 := 155) rfl rfl t72 (by omega) (by omega) (by decide) (by omega) True.intro ?_
      refine z_aload_n (pc2 := 156) rfl rfl rfl ?_
      refine z_getP (pc2 := 159) rfl rfl rfl rfl t56 ?_
      intro p4 p4e p4k; replace p4k : p4 = some 73 := p4k; clear p4e; subst p4k
      refine z_iload_n (pc2 := 160) rfl rfl rfl ?_
      refine z_iconst (pc2 := 161) rfl rfl ?_
      refine z_iast (pc2 := 162) rfl rfl t73 (by omega) (by omega) (by decide) (by omega) True.intro ?_
      refine z_aload_n (pc2 := 163) rfl rfl rfl ?_
      refine z_getP (pc2 := 166) rfl rfl rfl rfl t56 ?_
      intro p5 p5e p5k; replace p5k : p5 = some 74 := p5k; clear p5e; subst p5k
      refine z_iload_n (pc2 := 167) rfl rfl rfl ?_
      refine z_iconst (pc2 := 168) rfl rfl ?_
      refine z_iast (pc2 := 169) rfl rfl t74 (by omega) (by omega) (by decide) (by omega) (by show (0 : Int) ≤ _ ∧ _ ≤ 3; omega) ?_
      refine z_aload_n (pc2 := 170) rfl rfl rfl ?_
      refine z_callV (y2 := 168) (as := []) (rest := []) (pc2 := 173) rfl rfl rfl rfl t56 rfl ?_
      refine z_inl ?_
      refine z_lv (lv2 := [(0, _)]) ⟨rfl, trivial⟩ ?_
      refine z_aload_n (pc2 := 1) rfl rfl rfl ?_
      refine z_getP (pc2 := 4) rfl rfl rfl rfl t56 ?_
      intro p6 p6e p6k; replace p6k : p6 = some 59 := p6k; clear p6e; subst p6k
      refine z_aload_n (pc2 := 5) rfl rfl rfl ?_
      refine z_getI (pc2 := 8) 0 rfl rfl rfl rfl rfl t56 ?_
      intro v7 e7 r7 k7
      clear e7
      replace k7 : (0 : Int) ≤ v7 ∧ v7 ≤ 1 := k7; clear r7
      refine z_iconst (pc2 := 9) rfl rfl ?_
      refine z_bast (pc2 := 10) rfl rfl t59 (by omega) (by omega) (by decide) (by omega) True.intro ?_
      refine z_ret rfl rfl ?_
      show zB _ _ _ _ _ _ [] _ _
      refine z_aload_n (pc2 := 174) rfl rfl rfl ?_
      refine z_iconst (pc2 := 175) rfl rfl ?_
      refine z_callV (y2 := 158) (as := [_]) (rest := []) (pc2 := 178) rfl rfl rfl rfl t56 rfl ?_
      refine z_inl ?_
      refine z_lv (lv2 := [(0, _), (1, _)]) ⟨rfl, rfl, trivial⟩ ?_
      refine z_aload_n (pc2 := 1) rfl rfl rfl ?_
      refine z_iconst (pc2 := 2) rfl rfl ?_
      refine z_putI (pc2 := 5) rfl rfl rfl rfl rfl rfl t56 (by omega) True.intro ?_
      refine z_iload_n (pc2 := 6) rfl rfl rfl ?_
      refine z_iret rfl rfl ?_
      show zB _ _ _ _ _ _ [_] _ _
      refine z_iret rfl rfl ?_
      exact hK _ _ _ (by repeat (first | exact zFr_fount (by repeat (first | exact zQ_rf _ | assumption | refine zQ_u ?_ (zNr_a (by decide)) | refine zQ_u ?_ (zNr_f (by decide)))) (by omega) | refine zFr_a ?_ (by decide) | refine zFr_f ?_ (by decide)))
    ·
      refine z_aload_n (pc2 := 124) rfl rfl rfl ?_
      refine z_getP (pc2 := 127) rfl rfl rfl rfl t56 ?_
      intro p8 p8e p8k; replace p8k : p8 = some 70 := p8k; clear p8e; subst p8k
      refine z_iconst (pc2 := 128) rfl rfl ?_
      refine z_iload_n (pc2 := 129) rfl rfl rfl ?_
      refine z_imul (pc2 := 130) rfl rfl ?_
      refine z_iload (pc2 := 132) rfl rfl rfl ?_
      refine z_iadd (pc2 := 133) rfl rfl ?_
      refine z_iconst (pc2 := 134) rfl rfl ?_
      refine z_iast (pc2 := 135) rfl rfl t70 (by omega) (by omega) (by decide) (by omega) True.intro ?_
      refine z_iinc (lv2 := [(4, _), (0, _), (3, _)]) (pc2 := 138) rfl rfl rfl rfl rfl ?_
      refine z_goto (pc2 := 117) rfl rfl ?_
      refine z_lv (lv2 := [(0, _), (3, _), (4, _)]) ⟨rfl, rfl, rfl, trivial⟩ ?_
      exact ih _ _ _ (by omega) (by repeat (first | exact zQ_rf _ | assumption | refine zQ_u ?_ (zNr_a (by decide)) | refine zQ_u ?_ (zNr_f (by decide)))) (by omega)
set_option maxHeartbeats 8000000 in
theorem l_fount {L : Nat} {xs : Nat → Int32} {n sl : Nat} {T : Nat → zT} {I : Nat → Nat → Int} {P : Nat → Nat → Option Nat} {K : List zV → zH → Prop} {b i : Int} (hT : ∀ a, 56 ≤ a → a ≤ 90 → T a = zFix a) (hb : 0 ≤ b ∧ b ≤ 24) (hi : 0 ≤ i ∧ i ≤ 7) (hK : ∀ e I2 G2, zFr I I2 → K [.inl e] (n, sl, T, I2, P, G2)) (m : Nat) : ∀ (I2 : Nat → Nat → Int) (G2 : Nat → Nat → Int), ∀ (a : Int), 0 ≤ a ∧ a ≤ 24 → zQ (zU I 61 i.toNat b) I2 → (24 - a).toNat < m → zB zMd L xs 196 75 [(0, .inr (.inl (some 56))), (3, .inl i), (4, .inl a)] [] (n, sl, T, I2, P, G2) K := by
  have t56 : T 56 = (1, 12, [1]) := hT 56 (by decide) (by decide)
  have t62 : T 62 = (2, 0, [192, 0]) := hT 62 (by decide) (by decide)
  have t63 : T 63 = (2, 0, [192, 2]) := hT 63 (by decide) (by decide)
  induction m with
  | zero => intro I2 G2 a ha hI2 hm; omega
  | succ m ih =>
    intro I2 G2 a ha hI2 hm
    refine z_iload (pc2 := 77) rfl rfl rfl ?_
    refine z_bipush (pc2 := 79) rfl rfl (by decide) ?_
    refine z_icmp_ge (t := 114) (pc2 := 82) rfl rfl rfl (by omega) (by omega) (fun c1 => ?_) (fun c1 => ?_)
    ·
      refine z_iconst (pc2 := 115) rfl rfl ?_
      refine z_istore (lv2 := [(4, _), (0, _), (3, _)]) (pc2 := 117) rfl rfl rfl rfl ?_
      refine z_lv (lv2 := [(0, _), (3, _), (4, _)]) ⟨rfl, rfl, rfl, trivial⟩ ?_
      exact l_fount2 hT (b := b) (by omega) (by omega) hK _ _ _ _ (by omega) (by repeat (first | exact zQ_rf _ | assumption | refine zQ_u ?_ (zNr_a (by decide)) | refine zQ_u ?_ (zNr_f (by decide))))  (Nat.lt_succ_self _)
    ·
      refine z_aload_n (pc2 := 83) rfl rfl rfl ?_
      refine z_getP (pc2 := 86) rfl rfl rfl rfl t56 ?_
      intro p2 p2e p2k; replace p2k : p2 = some 62 := p2k; clear p2e; subst p2k
      refine z_bipush (pc2 := 88) rfl rfl (by decide) ?_
      refine z_iload_n (pc2 := 89) rfl rfl rfl ?_
      refine z_imul (pc2 := 90) rfl rfl ?_
      refine z_iload (pc2 := 92) rfl rfl rfl ?_
      refine z_iadd (pc2 := 93) rfl rfl ?_
      refine z_iconst (pc2 := 94) rfl rfl ?_
      refine z_iast (pc2 := 95) rfl rfl t62 (by omega) (by omega) (by decide) (by omega) True.intro ?_
      refine z_aload_n (pc2 := 96) rfl rfl rfl ?_
      refine z_getP (pc2 := 99) rfl rfl rfl rfl t56 ?_
      intro p3 p3e p3k; replace p3k : p3 = some 63 := p3k; clear p3e; subst p3k
      refine z_bipush (pc2 := 101) rfl rfl (by decide) ?_
      refine z_iload_n (pc2 := 102) rfl rfl rfl ?_
      refine z_imul (pc2 := 103) rfl rfl ?_
      refine z_iload (pc2 := 105) rfl rfl rfl ?_
      refine z_iadd (pc2 := 106) rfl rfl ?_
      refine z_iconst (pc2 := 107) rfl rfl ?_
      refine z_iast (pc2 := 108) rfl rfl t63 (by omega) (by omega) (by decide) (by omega) (by show (-1 : Int) ≤ _ ∧ _ ≤ 24; omega) ?_
      refine z_iinc (lv2 := [(4, _), (0, _), (3, _)]) (pc2 := 111) rfl rfl rfl rfl rfl ?_
      refine z_goto (pc2 := 75) rfl rfl ?_
      refine z_lv (lv2 := [(0, _), (3, _), (4, _)]) ⟨rfl, rfl, rfl, trivial⟩ ?_
      exact ih _ _ _ (by omega) (by repeat (first | exact zQ_rf _ | assumption | refine zQ_u ?_ (zNr_a (by decide)) | refine zQ_u ?_ (zNr_f (by decide)))) (by omega)
set_option maxHeartbeats 8000000 in
theorem m_fount {L : Nat} {xs : Nat → Int32} {n sl : Nat} {T : Nat → zT} {I : Nat → Nat → Int} {P : Nat → Nat → Option Nat} {G : Nat → Nat → Int} {K : List zV → zH → Prop} {a b : Int} (hT : ∀ a, 56 ≤ a → a ≤ 90 → T a = zFix a) (ha : zR a) (hb : zR b) (hK : ∀ e I2 G2, zFr I I2 → K [.inl e] (n, sl, T, I2, P, G2)) : zX zMd L xs 196 [.inr (.inl (some 56)), .inl a, .inl b] (n, sl, T, I, P, G) K := by
  have t56 : T 56 = (1, 12, [1]) := hT 56 (by decide) (by decide)
  have t61 : T 61 = (2, 0, [8, 2]) := hT 61 (by decide) (by decide)
  refine z_inl ?_
  refine z_lv (lv2 := [(0, _), (1, _), (2, _)]) ⟨rfl, rfl, rfl, trivial⟩ ?_
  refine z_iload_n (pc2 := 1) rfl rfl rfl ?_
  refine z_callS (y2 := 164) (as := [_]) (rest := []) (pc2 := 4) rfl rfl rfl rfl ?_
  refine z_inl ?_
  refine z_lv (lv2 := [(0, _)]) ⟨rfl, trivial⟩ ?_
  refine z_iload_n (pc2 := 1) rfl rfl rfl ?_
  refine z_i2l (pc2 := 2) rfl rfl (by omega) ?_
  refine z_lconst 0 (pc2 := 3) rfl rfl rfl ?_
  refine z_ldc2 (3) (pc2 := 6) rfl rfl rfl ?_
  refine z_callS (y2 := 157) (as := [_, _, _]) (rest := []) (pc2 := 9) rfl rfl rfl rfl ?_
  refine m_in (by omega) (by omega) (by omega) (fun e1 e1a e1b e1c => ?_)
  show zB _ _ _ _ _ _ [_] _ _
  refine z_zret rfl rfl (by omega) ?_
  show zB _ _ _ _ _ _ [_] _ _
  refine z_if_eq (t := 13) (pc2 := 7) rfl rfl rfl (by omega) (fun c2 => ?_) (fun c2 => ?_)
  ·
    refine z_aload_n (pc2 := 14) rfl rfl rfl ?_
    refine z_iconst (pc2 := 15) rfl rfl ?_
    refine z_callV (y2 := 159) (as := [_]) (rest := []) (pc2 := 18) rfl rfl rfl rfl t56 rfl ?_
    refine z_inl ?_
    refine z_lv (lv2 := [(0, _), (1, _)]) ⟨rfl, rfl, trivial⟩ ?_
    refine z_aload_n (pc2 := 1) rfl rfl rfl ?_
    refine z_iload_n (pc2 := 2) rfl rfl rfl ?_
    refine z_putI (pc2 := 5) rfl rfl rfl rfl rfl rfl t56 (by omega) True.intro ?_
    refine z_iload_n (pc2 := 6) rfl rfl rfl ?_
    refine z_iret rfl rfl ?_
    show zB _ _ _ _ _ _ [_] _ _
    refine z_iret rfl rfl ?_
    exact hK _ _ _ (by repeat (first | exact zFr_rf _ | assumption | refine zFr_a ?_ (by decide) | refine zFr_f ?_ (by decide) | refine zFr_n ?_ (by omega) | refine zFr_h ?_ (by omega) | refine zFr_tok ?_ (by omega)))
  ·
    refine z_iload_n (pc2 := 8) rfl rfl rfl ?_
    refine z_bipush (pc2 := 10) rfl rfl (by decide) ?_
    refine z_icmp_le (t := 19) (pc2 := 13) rfl rfl rfl (by omega) (by omega) (fun c3 => ?_) (fun c3 => ?_)
    ·
      refine z_aload_n (pc2 := 20) rfl rfl rfl ?_
      refine z_iload_n (pc2 := 21) rfl rfl rfl ?_
      refine z_callV (y2 := 163) (as := [_]) (rest := []) (pc2 := 24) rfl rfl rfl rfl t56 rfl ?_
      refine z_inl ?_
      refine z_lv (lv2 := [(0, _), (1, _)]) ⟨rfl, rfl, trivial⟩ ?_
      refine z_iconst (pc2 := 1) rfl rfl ?_
      refine z_aload_n (pc2 := 2) rfl rfl rfl ?_
      refine z_getI (pc2 := 5) 0 rfl rfl rfl rfl rfl t56 ?_
      intro v4 e4 r4 k4
      clear e4
      replace k4 : (0 : Int) ≤ v4 ∧ v4 ≤ 1 := k4; clear r4
      refine z_imul (pc2 := 6) rfl rfl ?_
      refine z_iload_n (pc2 := 7) rfl rfl rfl ?_
      refine z_iadd (pc2 := 8) rfl rfl ?_
      refine z_iret rfl rfl ?_
      show zB _ _ _ _ _ _ [_] _ _
      refine z_istore_n (lv2 := [(3, _), (0, _), (1, _), (2, _)]) (pc2 := 25) rfl rfl rfl rfl ?_
      refine z_aload_n (pc2 := 26) rfl rfl rfl ?_
      refine z_getP (pc2 := 29) rfl rfl rfl rfl t56 ?_
      intro p5 p5e p5k; replace p5k : p5 = some 61 := p5k; clear p5e; subst p5k
      refine z_iload_n (pc2 := 30) rfl rfl rfl ?_
      refine z_iald (pc2 := 31) rfl rfl t61 (by omega) (by omega) (by decide) ?_
      intro v6 e6 r6 k6
      clear e6
      replace k6 : (-1 : Int) ≤ v6 ∧ v6 ≤ 24 := k6; clear r6
      refine z_if_lt (t := 41) (pc2 := 34) rfl rfl rfl (by omega) (fun c7 => ?_) (fun c7 => ?_)
      ·
        refine z_aload_n (pc2 := 42) rfl rfl rfl ?_
        refine z_callV (y2 := 161) (as := []) (rest := []) (pc2 := 45) rfl rfl rfl rfl t56 rfl ?_
        refine z_inl ?_
        refine z_lv (lv2 := [(0, _)]) ⟨rfl, trivial⟩ ?_
        refine z_aload_n (pc2 := 1) rfl rfl rfl ?_
        refine z_getI (pc2 := 4) 0 rfl rfl rfl rfl rfl t56 ?_
        intro v8 e8 r8 k8
        clear e8
        clear k8
        refine z_sipush (pc2 := 7) rfl rfl (by decide) ?_
        refine z_icmp_lt (t := 14) (pc2 := 10) rfl rfl rfl (by omega) (by omega) (fun c9 => ?_) (fun c9 => ?_)
        ·
          refine z_iconst (pc2 := 15) rfl rfl ?_
          refine z_zret rfl rfl (by omega) ?_
          show zB _ _ _ _ _ _ [_] _ _
          refine z_if_eq (t := 55) (pc2 := 48) rfl rfl rfl (by omega) (fun c10 => ?_) (fun c10 => by exfalso; omega)
          refine z_iload_n (pc2 := 56) rfl rfl rfl ?_
          refine z_if_ge (t := 65) (pc2 := 59) rfl rfl rfl (by omega) (fun c11 => ?_) (fun c11 => ?_)
          ·
            refine z_aload_n (pc2 := 66) rfl rfl rfl ?_
            refine z_getP (pc2 := 69) rfl rfl rfl rfl t56 ?_
            intro p12 p12e p12k; replace p12k : p12 = some 61 := p12k; clear p12e; subst p12k
            refine z_iload_n (pc2 := 70) rfl rfl rfl ?_
            refine z_iload_n (pc2 := 71) rfl rfl rfl ?_
            refine z_iast (pc2 := 72) rfl rfl t61 (by omega) (by omega) (by decide) (by omega) (by show (-1 : Int) ≤ _ ∧ _ ≤ 24; omega) ?_
            refine z_iconst (pc2 := 73) rfl rfl ?_
            refine z_istore (lv2 := [(4, _), (3, _), (0, _), (1, _), (2, _)]) (pc2 := 75) rfl rfl rfl rfl ?_
            refine z_lv (lv2 := [(0, _), (3, _), (4, _)]) ⟨rfl, rfl, rfl, trivial⟩ ?_
            exact l_fount hT (b := b) (by omega) (by omega) hK _ _ _ _ (by omega) (by repeat (first | exact zQ_rf _ | assumption | refine zQ_u ?_ (zNr_a (by decide)) | refine zQ_u ?_ (zNr_f (by decide))))  (Nat.lt_succ_self _)
          ·
            refine z_aload_n (pc2 := 60) rfl rfl rfl ?_
            refine z_iconst (pc2 := 61) rfl rfl ?_
            refine z_callV (y2 := 160) (as := [_]) (rest := []) (pc2 := 64) rfl rfl rfl rfl t56 rfl ?_
            refine z_inl ?_
            refine z_lv (lv2 := [(0, _), (1, _)]) ⟨rfl, rfl, trivial⟩ ?_
            refine z_aload_n (pc2 := 1) rfl rfl rfl ?_
            refine z_dup (pc2 := 2) rfl rfl rfl ?_
            refine z_getI (pc2 := 5) 0 rfl rfl rfl rfl rfl t56 ?_
            intro v13 e13 r13 k13
            clear e13
            clear k13
            refine z_iconst (pc2 := 6) rfl rfl ?_
            refine z_iadd (pc2 := 7) rfl rfl ?_
            refine z_putI_any (pc2 := 10) rfl rfl rfl rfl rfl rfl t56 (fun _ _ => True.intro) (fun u14 u14r => ?_); clear u14r
            refine z_aload_n (pc2 := 11) rfl rfl rfl ?_
            refine z_bipush (pc2 := 13) rfl rfl (by decide) ?_
            refine z_iload_n (pc2 := 14) rfl rfl rfl ?_
            refine z_isub (pc2 := 15) rfl rfl ?_
            refine z_putI (pc2 := 18) rfl rfl rfl rfl rfl rfl t56 (by omega) True.intro ?_
            refine z_aload_n (pc2 := 19) rfl rfl rfl ?_
            refine z_getI (pc2 := 22) 0 rfl rfl rfl rfl rfl t56 ?_
            intro v15 e15 r15 k15
            clear e15
            clear k15
            refine z_iret rfl rfl ?_
            show zB _ _ _ _ _ _ [_] _ _
            refine z_iret rfl rfl ?_
            exact hK _ _ _ (by repeat (first | exact zFr_rf _ | assumption | refine zFr_a ?_ (by decide) | refine zFr_f ?_ (by decide) | refine zFr_n ?_ (by omega) | refine zFr_h ?_ (by omega) | refine zFr_tok ?_ (by omega)))
        ·
          refine z_iconst (pc2 := 11) rfl rfl ?_
          refine z_goto (pc2 := 15) rfl rfl ?_
          refine z_zret rfl rfl (by omega) ?_
          show zB _ _ _ _ _ _ [_] _ _
          refine z_if_eq (t := 55) (pc2 := 48) rfl rfl rfl (by omega) (fun c16 => by exfalso; omega) (fun c16 => ?_)
          refine z_aload_n (pc2 := 49) rfl rfl rfl ?_
          refine z_bipush (pc2 := 51) rfl rfl (by decide) ?_
          refine z_callV (y2 := 159) (as := [_]) (rest := []) (pc2 := 54) rfl rfl rfl rfl t56 rfl ?_
          refine z_inl ?_
          refine z_lv (lv2 := [(0, _), (1, _)]) ⟨rfl, rfl, trivial⟩ ?_
          refine z_aload_n (pc2 := 1) rfl rfl rfl ?_
          refine z_iload_n (pc2 := 2) rfl rfl rfl ?_
          refine z_putI (pc2 := 5) rfl rfl rfl rfl rfl rfl t56 (by omega) True.intro ?_
          refine z_iload_n (pc2 := 6) rfl rfl rfl ?_
          refine z_iret rfl rfl ?_
          show zB _ _ _ _ _ _ [_] _ _
          refine z_iret rfl rfl ?_
          exact hK _ _ _ (by repeat (first | exact zFr_rf _ | assumption | refine zFr_a ?_ (by decide) | refine zFr_f ?_ (by decide) | refine zFr_n ?_ (by omega) | refine zFr_h ?_ (by omega) | refine zFr_tok ?_ (by omega)))
      ·
        refine z_aload_n (pc2 := 35) rfl rfl rfl ?_
        refine z_bipush (pc2 := 37) rfl rfl (by decide) ?_
        refine z_callV (y2 := 159) (as := [_]) (rest := []) (pc2 := 40) rfl rfl rfl rfl t56 rfl ?_
        refine z_inl ?_
        refine z_lv (lv2 := [(0, _), (1, _)]) ⟨rfl, rfl, trivial⟩ ?_
        refine z_aload_n (pc2 := 1) rfl rfl rfl ?_
        refine z_iload_n (pc2 := 2) rfl rfl rfl ?_
        refine z_putI (pc2 := 5) rfl rfl rfl rfl rfl rfl t56 (by omega) True.intro ?_
        refine z_iload_n (pc2 := 6) rfl rfl rfl ?_
        refine z_iret rfl rfl ?_
        show zB _ _ _ _ _ _ [_] _ _
        refine z_iret rfl rfl ?_
        exact hK _ _ _ (by repeat (first | exact zFr_rf _ | assumption | refine zFr_a ?_ (by decide) | refine zFr_f ?_ (by decide) | refine zFr_n ?_ (by omega) | refine zFr_h ?_ (by omega) | refine zFr_tok ?_ (by omega)))
    ·
      refine z_aload_n (pc2 := 14) rfl rfl rfl ?_
      refine z_iconst (pc2 := 15) rfl rfl ?_
      refine z_callV (y2 := 159) (as := [_]) (rest := []) (pc2 := 18) rfl rfl rfl rfl t56 rfl ?_
      refine z_inl ?_
      refine z_lv (lv2 := [(0, _), (1, _)]) ⟨rfl, rfl, trivial⟩ ?_
      refine z_aload_n (pc2 := 1) rfl rfl rfl ?_
      refine z_iload_n (pc2 := 2) rfl rfl rfl ?_
      refine z_putI (pc2 := 5) rfl rfl rfl rfl rfl rfl t56 (by omega) True.intro ?_
      refine z_iload_n (pc2 := 6) rfl rfl rfl ?_
      refine z_iret rfl rfl ?_
      show zB _ _ _ _ _ _ [_] _ _
      refine z_iret rfl rfl ?_
      exact hK _ _ _ (by repeat (first | exact zFr_rf _ | assumption | refine zFr_a ?_ (by decide) | refine zFr_f ?_ (by decide) | refine zFr_n ?_ (by omega) | refine zFr_h ?_ (by omega) | refine zFr_tok ?_ (by omega)))
set_option maxHeartbeats 8000000 in
theorem l_kernRow {L : Nat} {xs : Nat → Int32} {n sl : Nat} {T : Nat → zT} {I : Nat → Nat → Int} {P : Nat → Nat → Option Nat} {K : List zV → zH → Prop} {a i : Int} (hT : ∀ a, 56 ≤ a → a ≤ 90 → T a = zFix a) (ha : 0 ≤ a ∧ a ≤ 23) (hi : 0 ≤ i ∧ i ≤ 7) (hK : ∀ e I2 G2, zFr I I2 → K [.inl e] (n, sl, T, I2, P, G2)) (m : Nat) : ∀ (I2 : Nat → Nat → Int) (G2 : Nat → Nat → Int), ∀ (b : Int), 0 ≤ b ∧ b ≤ 24 → zFr I I2 → (24 - b).toNat < m → zB zMd L xs 200 93 [(0, .inr (.inl (some 56))), (2, .inl a), (5, .inl i), (6, .inl b)] [] (n, sl, T, I2, P, G2) K := by
  have t56 : T 56 = (1, 12, [1]) := hT 56 (by decide) (by decide)
  have t59 : T 59 = (2, 2, [2, 0]) := hT 59 (by decide) (by decide)
  have t64 : T 64 = (2, 0, [4608, 0]) := hT 64 (by decide) (by decide)
  induction m with
  | zero => intro I2 G2 b hb hI2 hm; omega
  | succ m ih =>
    intro I2 G2 b hb hI2 hm
    refine z_iload (pc2 := 95) rfl rfl rfl ?_
    refine z_bipush (pc2 := 97) rfl rfl (by decide) ?_
    refine z_icmp_ge (t := 125) (pc2 := 100) rfl rfl rfl (by omega) (by omega) (fun c1 => ?_) (fun c1 => ?_)
    ·
      refine z_aload_n (pc2 := 126) rfl rfl rfl ?_
      refine z_iconst (pc2 := 127) rfl rfl ?_
      refine z_callV (y2 := 198) (as := [_]) (rest := []) (pc2 := 130) rfl rfl rfl rfl t56 rfl ?_
      refine z_inl ?_
      refine z_lv (lv2 := [(0, _), (1, _)]) ⟨rfl, rfl, trivial⟩ ?_
      refine z_aload_n (pc2 := 1) rfl rfl rfl ?_
      refine z_callV (y2 := 168) (as := []) (rest := []) (pc2 := 4) rfl rfl rfl rfl t56 rfl ?_
      refine z_inl ?_
      refine z_lv (lv2 := [(0, _)]) ⟨rfl, trivial⟩ ?_
      refine z_aload_n (pc2 := 1) rfl rfl rfl ?_
      refine z_getP (pc2 := 4) rfl rfl rfl rfl t56 ?_
      intro p2 p2e p2k; replace p2k : p2 = some 59 := p2k; clear p2e; subst p2k
      refine z_aload_n (pc2 := 5) rfl rfl rfl ?_
      refine z_getI (pc2 := 8) 0 rfl rfl rfl rfl rfl t56 ?_
      intro v3 e3 r3 k3
      clear e3
      replace k3 : (0 : Int) ≤ v3 ∧ v3 ≤ 1 := k3; clear r3
      refine z_iconst (pc2 := 9) rfl rfl ?_
      refine z_bast (pc2 := 10) rfl rfl t59 (by omega) (by omega) (by decide) (by omega) True.intro ?_
      refine z_ret rfl rfl ?_
      show zB _ _ _ _ _ _ [] _ _
      refine z_aload_n (pc2 := 5) rfl rfl rfl ?_
      refine z_iload_n (pc2 := 6) rfl rfl rfl ?_
      refine z_callV (y2 := 158) (as := [_]) (rest := []) (pc2 := 9) rfl rfl rfl rfl t56 rfl ?_
      refine z_inl ?_
      refine z_lv (lv2 := [(0, _), (1, _)]) ⟨rfl, rfl, trivial⟩ ?_
      refine z_aload_n (pc2 := 1) rfl rfl rfl ?_
      refine z_iconst (pc2 := 2) rfl rfl ?_
      refine z_putI (pc2 := 5) rfl rfl rfl rfl rfl rfl t56 (by omega) True.intro ?_
      refine z_iload_n (pc2 := 6) rfl rfl rfl ?_
      refine z_iret rfl rfl ?_
      show zB _ _ _ _ _ _ [_] _ _
      refine z_iret rfl rfl ?_
      show zB _ _ _ _ _ _ [_] _ _
      refine z_iret rfl rfl ?_
      exact hK _ _ _ (by repeat (first | exact zFr_rf _ | assumption | refine zFr_a ?_ (by decide) | refine zFr_f ?_ (by decide) | refine zFr_n ?_ (by omega) | refine zFr_h ?_ (by omega) | refine zFr_tok ?_ (by omega)))
    ·
      refine z_aload_n (pc2 := 101) rfl rfl rfl ?_
      refine z_getP (pc2 := 104) rfl rfl rfl rfl t56 ?_
      intro p4 p4e p4k; replace p4k : p4 = some 64 := p4k; clear p4e; subst p4k
      refine z_bipush (pc2 := 106) rfl rfl (by decide) ?_
      refine z_bipush (pc2 := 108) rfl rfl (by decide) ?_
      refine z_iload (pc2 := 110) rfl rfl rfl ?_
      refine z_imul (pc2 := 111) rfl rfl ?_
      refine z_iload_n (pc2 := 112) rfl rfl rfl ?_
      refine z_iadd (pc2 := 113) rfl rfl ?_
      refine z_imul (pc2 := 114) rfl rfl ?_
      refine z_iload (pc2 := 116) rfl rfl rfl ?_
      refine z_iadd (pc2 := 117) rfl rfl ?_
      refine z_iconst (pc2 := 118) rfl rfl ?_
      refine z_iast (pc2 := 119) rfl rfl t64 (by omega) (by omega) (by decide) (by omega) True.intro ?_
      refine z_iinc (lv2 := [(6, _), (0, _), (2, _), (5, _)]) (pc2 := 122) rfl rfl rfl rfl rfl ?_
      refine z_goto (pc2 := 93) rfl rfl ?_
      refine z_lv (lv2 := [(0, _), (2, _), (5, _), (6, _)]) ⟨rfl, rfl, rfl, rfl, trivial⟩ ?_
      exact ih _ _ _ (by omega) (by repeat (first | exact zFr_rf _ | assumption | refine zFr_a ?_ (by decide) | refine zFr_f ?_ (by decide) | refine zFr_n ?_ (by omega) | refine zFr_h ?_ (by omega) | refine zFr_tok ?_ (by omega))) (by omega)
set_option maxHeartbeats 8000000 in
theorem m_kernRow {L : Nat} {xs : Nat → Int32} {n sl : Nat} {T : Nat → zT} {I : Nat → Nat → Int} {P : Nat → Nat → Option Nat} {G : Nat → Nat → Int} {K : List zV → zH → Prop} {a b c : Int} (hT : ∀ a, 56 ≤ a → a ≤ 90 → T a = zFix a) (ha : zR a) (hb : zR b) (hc : zR c) (hK : ∀ e I2 G2, zFr I I2 → K [.inl e] (n, sl, T, I2, P, G2)) : zX zMd L xs 200 [.inr (.inl (some 56)), .inl a, .inl b, .inl c] (n, sl, T, I, P, G) K := by
  have t56 : T 56 = (1, 12, [1]) := hT 56 (by decide) (by decide)
  have t61 : T 61 = (2, 0, [8, 2]) := hT 61 (by decide) (by decide)
  have t63 : T 63 = (2, 0, [192, 2]) := hT 63 (by decide) (by decide)
  refine z_inl ?_
  refine z_lv (lv2 := [(0, _), (1, _), (2, _), (3, _)]) ⟨rfl, rfl, rfl, rfl, trivial⟩ ?_
  refine z_iload_n (pc2 := 1) rfl rfl rfl ?_
  refine z_callS (y2 := 164) (as := [_]) (rest := []) (pc2 := 4) rfl rfl rfl rfl ?_
  refine z_inl ?_
  refine z_lv (lv2 := [(0, _)]) ⟨rfl, trivial⟩ ?_
  refine z_iload_n (pc2 := 1) rfl rfl rfl ?_
  refine z_i2l (pc2 := 2) rfl rfl (by omega) ?_
  refine z_lconst 0 (pc2 := 3) rfl rfl rfl ?_
  refine z_ldc2 (3) (pc2 := 6) rfl rfl rfl ?_
  refine z_callS (y2 := 157) (as := [_, _, _]) (rest := []) (pc2 := 9) rfl rfl rfl rfl ?_
  refine m_in (by omega) (by omega) (by omega) (fun e1 e1a e1b e1c => ?_)
  show zB _ _ _ _ _ _ [_] _ _
  refine z_zret rfl rfl (by omega) ?_
  show zB _ _ _ _ _ _ [_] _ _
  refine z_if_eq (t := 13) (pc2 := 7) rfl rfl rfl (by omega) (fun c2 => ?_) (fun c2 => ?_)
  ·
    refine z_aload_n (pc2 := 14) rfl rfl rfl ?_
    refine z_iconst (pc2 := 15) rfl rfl ?_
    refine z_callV (y2 := 159) (as := [_]) (rest := []) (pc2 := 18) rfl rfl rfl rfl t56 rfl ?_
    refine z_inl ?_
    refine z_lv (lv2 := [(0, _), (1, _)]) ⟨rfl, rfl, trivial⟩ ?_
    refine z_aload_n (pc2 := 1) rfl rfl rfl ?_
    refine z_iload_n (pc2 := 2) rfl rfl rfl ?_
    refine z_putI (pc2 := 5) rfl rfl rfl rfl rfl rfl t56 (by omega) True.intro ?_
    refine z_iload_n (pc2 := 6) rfl rfl rfl ?_
    refine z_iret rfl rfl ?_
    show zB _ _ _ _ _ _ [_] _ _
    refine z_iret rfl rfl ?_
    exact hK _ _ _ (by repeat (first | exact zFr_rf _ | assumption | refine zFr_a ?_ (by decide) | refine zFr_f ?_ (by decide) | refine zFr_n ?_ (by omega) | refine zFr_h ?_ (by omega) | refine zFr_tok ?_ (by omega)))
  ·
    refine z_iload_n (pc2 := 8) rfl rfl rfl ?_
    refine z_bipush (pc2 := 10) rfl rfl (by decide) ?_
    refine z_icmp_le (t := 19) (pc2 := 13) rfl rfl rfl (by omega) (by omega) (fun c3 => ?_) (fun c3 => ?_)
    ·
      refine z_aload_n (pc2 := 20) rfl rfl rfl ?_
      refine z_iload_n (pc2 := 21) rfl rfl rfl ?_
      refine z_callV (y2 := 197) (as := [_]) (rest := []) (pc2 := 24) rfl rfl rfl rfl t56 rfl ?_
      refine m_bars hT (by omega) (fun w4 Iw4 Gw4 fw4 => ?_)
      replace fw4 := zFr_tr (I := I) (by repeat (first | exact zFr_rf _ | assumption | refine zFr_a ?_ (by decide) | refine zFr_f ?_ (by decide) | refine zFr_n ?_ (by omega) | refine zFr_h ?_ (by omega) | refine zFr_tok ?_ (by omega))) fw4
      show zB _ _ _ _ _ _ [_] _ _
      refine z_istore (lv2 := [(4, _), (0, _), (1, _), (2, _), (3, _)]) (pc2 := 26) rfl rfl rfl rfl ?_
      refine z_iload (pc2 := 28) rfl rfl rfl ?_
      refine z_if_any (t := 34) (pc2 := 31) rfl rfl rfl ?_ ?_
      ·
        refine z_iload_n (pc2 := 35) rfl rfl rfl ?_
        refine z_iconst (pc2 := 36) rfl rfl ?_
        refine z_icmp_ge (t := 45) (pc2 := 39) rfl rfl rfl (by omega) (by omega) (fun c5 => ?_) (fun c5 => ?_)
        ·
          refine z_aload_n (pc2 := 46) rfl rfl rfl ?_
          refine z_iload_n (pc2 := 47) rfl rfl rfl ?_
          refine z_callV (y2 := 163) (as := [_]) (rest := []) (pc2 := 50) rfl rfl rfl rfl t56 rfl ?_
          refine z_inl ?_
          refine z_lv (lv2 := [(0, _), (1, _)]) ⟨rfl, rfl, trivial⟩ ?_
          refine z_iconst (pc2 := 1) rfl rfl ?_
          refine z_aload_n (pc2 := 2) rfl rfl rfl ?_
          refine z_getI (pc2 := 5) 0 rfl rfl rfl rfl rfl t56 ?_
          intro v6 e6 r6 k6
          clear e6
          replace k6 : (0 : Int) ≤ v6 ∧ v6 ≤ 1 := k6; clear r6
          refine z_imul (pc2 := 6) rfl rfl ?_
          refine z_iload_n (pc2 := 7) rfl rfl rfl ?_
          refine z_iadd (pc2 := 8) rfl rfl ?_
          refine z_iret rfl rfl ?_
          show zB _ _ _ _ _ _ [_] _ _
          refine z_istore (lv2 := [(5, _), (4, _), (0, _), (1, _), (2, _), (3, _)]) (pc2 := 52) rfl rfl rfl rfl ?_
          refine z_iload_n (pc2 := 53) rfl rfl rfl ?_
          refine z_i2l (pc2 := 54) rfl rfl (by omega) ?_
          refine z_lconst 0 (pc2 := 55) rfl rfl rfl ?_
          refine z_aload_n (pc2 := 56) rfl rfl rfl ?_
          refine z_getP (pc2 := 59) rfl rfl rfl rfl t56 ?_
          intro p7 p7e p7k; replace p7k : p7 = some 61 := p7k; clear p7e; subst p7k
          refine z_iload (pc2 := 61) rfl rfl rfl ?_
          refine z_iald (pc2 := 62) rfl rfl t61 (by omega) (by omega) (by decide) ?_
          intro v8 e8 r8 k8
          clear e8
          replace k8 : (-1 : Int) ≤ v8 ∧ v8 ≤ 24 := k8; clear r8
          refine z_iconst (pc2 := 63) rfl rfl ?_
          refine z_isub (pc2 := 64) rfl rfl ?_
          refine z_i2l (pc2 := 65) rfl rfl (by omega) ?_
          refine z_callS (y2 := 157) (as := [_, _, _]) (rest := []) (pc2 := 68) rfl rfl rfl rfl ?_
          refine m_in (by omega) (by omega) (by omega) (fun e9 e9a e9b e9c => ?_)
          show zB _ _ _ _ _ _ [_] _ _
          refine z_if_ne (t := 77) (pc2 := 71) rfl rfl rfl (by omega) (fun c10 => ?_) (fun c10 => ?_)
          ·
            refine z_aload_n (pc2 := 78) rfl rfl rfl ?_
            refine z_getP (pc2 := 81) rfl rfl rfl rfl t56 ?_
            intro p11 p11e p11k; replace p11k : p11 = some 63 := p11k; clear p11e; subst p11k
            refine z_bipush (pc2 := 83) rfl rfl (by decide) ?_
            refine z_iload (pc2 := 85) rfl rfl rfl ?_
            refine z_imul (pc2 := 86) rfl rfl ?_
            refine z_iload_n (pc2 := 87) rfl rfl rfl ?_
            refine z_iadd (pc2 := 88) rfl rfl ?_
            refine z_iload_n (pc2 := 89) rfl rfl rfl ?_
            refine z_iast (pc2 := 90) rfl rfl t63 (by omega) (by omega) (by decide) (by omega) (by show (-1 : Int) ≤ _ ∧ _ ≤ 24; omega) ?_
            refine z_iconst (pc2 := 91) rfl rfl ?_
            refine z_istore (lv2 := [(6, _), (5, _), (4, _), (0, _), (1, _), (2, _), (3, _)]) (pc2 := 93) rfl rfl rfl rfl ?_
            refine z_lv (lv2 := [(0, _), (2, _), (5, _), (6, _)]) ⟨rfl, rfl, rfl, rfl, trivial⟩ ?_
            exact l_kernRow hT (by omega) (by omega) hK _ _ _ _ (by omega) (by repeat (first | exact zFr_rf _ | assumption | refine zFr_a ?_ (by decide) | refine zFr_f ?_ (by decide) | refine zFr_n ?_ (by omega) | refine zFr_h ?_ (by omega) | refine zFr_tok ?_ (by omega)))  (Nat.lt_succ_self _)
          ·
            refine z_aload_n (pc2 := 72) rfl rfl rfl ?_
            refine z_iconst (pc2 := 73) rfl rfl ?_
            refine z_callV (y2 := 160) (as := [_]) (rest := []) (pc2 := 76) rfl rfl rfl rfl t56 rfl ?_
            refine z_inl ?_
            refine z_lv (lv2 := [(0, _), (1, _)]) ⟨rfl, rfl, trivial⟩ ?_
            refine z_aload_n (pc2 := 1) rfl rfl rfl ?_
            refine z_dup (pc2 := 2) rfl rfl rfl ?_
            refine z_getI (pc2 := 5) 0 rfl rfl rfl rfl rfl t56 ?_
            intro v12 e12 r12 k12
            clear e12
            clear k12
            refine z_iconst (pc2 := 6) rfl rfl ?_
            refine z_iadd (pc2 := 7) rfl rfl ?_
            refine z_putI_any (pc2 := 10) rfl rfl rfl rfl rfl rfl t56 (fun _ _ => True.intro) (fun u13 u13r => ?_); clear u13r
            refine z_aload_n (pc2 := 11) rfl rfl rfl ?_
            refine z_bipush (pc2 := 13) rfl rfl (by decide) ?_
            refine z_iload_n (pc2 := 14) rfl rfl rfl ?_
            refine z_isub (pc2 := 15) rfl rfl ?_
            refine z_putI (pc2 := 18) rfl rfl rfl rfl rfl rfl t56 (by omega) True.intro ?_
            refine z_aload_n (pc2 := 19) rfl rfl rfl ?_
            refine z_getI (pc2 := 22) 0 rfl rfl rfl rfl rfl t56 ?_
            intro v14 e14 r14 k14
            clear e14
            clear k14
            refine z_iret rfl rfl ?_
            show zB _ _ _ _ _ _ [_] _ _
            refine z_iret rfl rfl ?_
            exact hK _ _ _ (by repeat (first | exact zFr_rf _ | assumption | refine zFr_a ?_ (by decide) | refine zFr_f ?_ (by decide) | refine zFr_n ?_ (by omega) | refine zFr_h ?_ (by omega) | refine zFr_tok ?_ (by omega)))
        ·
          refine z_aload_n (pc2 := 40) rfl rfl rfl ?_
          refine z_iconst (pc2 := 41) rfl rfl ?_
          refine z_callV (y2 := 160) (as := [_]) (rest := []) (pc2 := 44) rfl rfl rfl rfl t56 rfl ?_
          refine z_inl ?_
          refine z_lv (lv2 := [(0, _), (1, _)]) ⟨rfl, rfl, trivial⟩ ?_
          refine z_aload_n (pc2 := 1) rfl rfl rfl ?_
          refine z_dup (pc2 := 2) rfl rfl rfl ?_
          refine z_getI (pc2 := 5) 0 rfl rfl rfl rfl rfl t56 ?_
          intro v15 e15 r15 k15
          clear e15
          clear k15
          refine z_iconst (pc2 := 6) rfl rfl ?_
          refine z_iadd (pc2 := 7) rfl rfl ?_
          refine z_putI_any (pc2 := 10) rfl rfl rfl rfl rfl rfl t56 (fun _ _ => True.intro) (fun u16 u16r => ?_); clear u16r
          refine z_aload_n (pc2 := 11) rfl rfl rfl ?_
          refine z_bipush (pc2 := 13) rfl rfl (by decide) ?_
          refine z_iload_n (pc2 := 14) rfl rfl rfl ?_
          refine z_isub (pc2 := 15) rfl rfl ?_
          refine z_putI (pc2 := 18) rfl rfl rfl rfl rfl rfl t56 (by omega) True.intro ?_
          refine z_aload_n (pc2 := 19) rfl rfl rfl ?_
          refine z_getI (pc2 := 22) 0 rfl rfl rfl rfl rfl t56 ?_
          intro v17 e17 r17 k17
          clear e17
          clear k17
          refine z_iret rfl rfl ?_
          show zB _ _ _ _ _ _ [_] _ _
          refine z_iret rfl rfl ?_
          exact hK _ _ _ (by repeat (first | exact zFr_rf _ | assumption | refine zFr_a ?_ (by decide) | refine zFr_f ?_ (by decide) | refine zFr_n ?_ (by omega) | refine zFr_h ?_ (by omega) | refine zFr_tok ?_ (by omega)))
      ·
        refine z_iload (pc2 := 33) rfl rfl rfl ?_
        refine z_iret rfl rfl ?_
        exact hK _ _ _ (by repeat (first | exact zFr_rf _ | assumption | refine zFr_a ?_ (by decide) | refine zFr_f ?_ (by decide) | refine zFr_n ?_ (by omega) | refine zFr_h ?_ (by omega) | refine zFr_tok ?_ (by omega)))
    ·
      refine z_aload_n (pc2 := 14) rfl rfl rfl ?_
      refine z_iconst (pc2 := 15) rfl rfl ?_
      refine z_callV (y2 := 159) (as := [_]) (rest := []) (pc2 := 18) rfl rfl rfl rfl t56 rfl ?_
      refine z_inl ?_
      refine z_lv (lv2 := [(0, _), (1, _)]) ⟨rfl, rfl, trivial⟩ ?_
      refine z_aload_n (pc2 := 1) rfl rfl rfl ?_
      refine z_iload_n (pc2 := 2) rfl rfl rfl ?_
      refine z_putI (pc2 := 5) rfl rfl rfl rfl rfl rfl t56 (by omega) True.intro ?_
      refine z_iload_n (pc2 := 6) rfl rfl rfl ?_
      refine z_iret rfl rfl ?_
      show zB _ _ _ _ _ _ [_] _ _
      refine z_iret rfl rfl ?_
      exact hK _ _ _ (by repeat (first | exact zFr_rf _ | assumption | refine zFr_a ?_ (by decide) | refine zFr_f ?_ (by decide) | refine zFr_n ?_ (by omega) | refine zFr_h ?_ (by omega) | refine zFr_tok ?_ (by omega)))
set_option maxHeartbeats 8000000 in
theorem l_text {L : Nat} {xs : Nat → Int32} {n sl : Nat} {T : Nat → zT} {I : Nat → Nat → Int} {P : Nat → Nat → Option Nat} {K : List zV → zH → Prop} {p : Int} (hT : ∀ a, 56 ≤ a → a ≤ 90 → T a = zFix a) (hp : 0 ≤ p ∧ p ≤ 11) (hK : ∀ e I2 G2, zFr I I2 → K [.inl e] (n, sl, T, I2, P, G2)) (m : Nat) : ∀ (I2 : Nat → Nat → Int) (G2 : Nat → Nat → Int), ∀ (k : Int), 0 ≤ k ∧ k ≤ 40 → zFr I I2 → (40 - k).toNat < m → zB zMd L xs 208 61 [(0, .inr (.inl (some 56))), (1, .inl p), (3, .inl k)] [] (n, sl, T, I2, P, G2) K := by
  have t56 : T 56 = (1, 12, [1]) := hT 56 (by decide) (by decide)
  have t78 : T 78 = (2, 0, [960, 7]) := hT 78 (by decide) (by decide)
  induction m with
  | zero => intro I2 G2 k hk hI2 hm; omega
  | succ m ih =>
    intro I2 G2 k hk hI2 hm
    refine z_iload_n (pc2 := 62) rfl rfl rfl ?_
    refine z_bipush (pc2 := 64) rfl rfl (by decide) ?_
    refine z_icmp_ge (t := 93) (pc2 := 67) rfl rfl rfl (by omega) (by omega) (fun c1 => ?_) (fun c1 => ?_)
    ·
      refine z_aload_n (pc2 := 94) rfl rfl rfl ?_
      refine z_iconst (pc2 := 95) rfl rfl ?_
      refine z_callV (y2 := 158) (as := [_]) (rest := []) (pc2 := 98) rfl rfl rfl rfl t56 rfl ?_
      refine z_inl ?_
      refine z_lv (lv2 := [(0, _), (1, _)]) ⟨rfl, rfl, trivial⟩ ?_
      refine z_aload_n (pc2 := 1) rfl rfl rfl ?_
      refine z_iconst (pc2 := 2) rfl rfl ?_
      refine z_putI (pc2 := 5) rfl rfl rfl rfl rfl rfl t56 (by omega) True.intro ?_
      refine z_iload_n (pc2 := 6) rfl rfl rfl ?_
      refine z_iret rfl rfl ?_
      show zB _ _ _ _ _ _ [_] _ _
      refine z_iret rfl rfl ?_
      exact hK _ _ _ (by repeat (first | exact zFr_rf _ | assumption | refine zFr_a ?_ (by decide) | refine zFr_f ?_ (by decide) | refine zFr_n ?_ (by omega) | refine zFr_h ?_ (by omega) | refine zFr_tok ?_ (by omega)))
    ·
      refine z_aload_n (pc2 := 68) rfl rfl rfl ?_
      refine z_getP (pc2 := 71) rfl rfl rfl rfl t56 ?_
      intro p2 p2e p2k; replace p2k : p2 = some 78 := p2k; clear p2e; subst p2k
      refine z_bipush (pc2 := 73) rfl rfl (by decide) ?_
      refine z_bipush (pc2 := 75) rfl rfl (by decide) ?_
      refine z_aload_n (pc2 := 76) rfl rfl rfl ?_
      refine z_getI (pc2 := 79) 0 rfl rfl rfl rfl rfl t56 ?_
      intro v3 e3 r3 k3
      clear e3
      replace k3 : (0 : Int) ≤ v3 ∧ v3 ≤ 1 := k3; clear r3
      refine z_imul (pc2 := 80) rfl rfl ?_
      refine z_iload_n (pc2 := 81) rfl rfl rfl ?_
      refine z_iadd (pc2 := 82) rfl rfl ?_
      refine z_imul (pc2 := 83) rfl rfl ?_
      refine z_iload_n (pc2 := 84) rfl rfl rfl ?_
      refine z_iadd (pc2 := 85) rfl rfl ?_
      refine z_iconst (pc2 := 86) rfl rfl ?_
      refine z_iast (pc2 := 87) rfl rfl t78 (by omega) (by omega) (by decide) (by omega) (by show (0 : Int) ≤ _ ∧ _ ≤ 127; omega) ?_
      refine z_iinc (lv2 := [(3, _), (0, _), (1, _)]) (pc2 := 90) rfl rfl rfl rfl rfl ?_
      refine z_goto (pc2 := 61) rfl rfl ?_
      refine z_lv (lv2 := [(0, _), (1, _), (3, _)]) ⟨rfl, rfl, rfl, trivial⟩ ?_
      exact ih _ _ _ (by omega) (by repeat (first | exact zFr_rf _ | assumption | refine zFr_a ?_ (by decide) | refine zFr_f ?_ (by decide) | refine zFr_n ?_ (by omega) | refine zFr_h ?_ (by omega) | refine zFr_tok ?_ (by omega))) (by omega)
set_option maxHeartbeats 8000000 in
theorem m_text {L : Nat} {xs : Nat → Int32} {n sl : Nat} {T : Nat → zT} {I : Nat → Nat → Int} {P : Nat → Nat → Option Nat} {G : Nat → Nat → Int} {K : List zV → zH → Prop} {a b : Int} (hT : ∀ a, 56 ≤ a → a ≤ 90 → T a = zFix a) (ha : zR a) (hb : zR b) (hK : ∀ e I2 G2, zFr I I2 → K [.inl e] (n, sl, T, I2, P, G2)) : zX zMd L xs 208 [.inr (.inl (some 56)), .inl a, .inl b] (n, sl, T, I, P, G) K := by
  have t56 : T 56 = (1, 12, [1]) := hT 56 (by decide) (by decide)
  have t77 : T 77 = (2, 0, [24, 6]) := hT 77 (by decide) (by decide)
  refine z_inl ?_
  refine z_lv (lv2 := [(0, _), (1, _), (2, _)]) ⟨rfl, rfl, rfl, trivial⟩ ?_
  refine z_iload_n (pc2 := 1) rfl rfl rfl ?_
  refine z_callS (y2 := 207) (as := [_]) (rest := []) (pc2 := 4) rfl rfl rfl rfl ?_
  refine z_inl ?_
  refine z_lv (lv2 := [(0, _)]) ⟨rfl, trivial⟩ ?_
  refine z_iload_n (pc2 := 1) rfl rfl rfl ?_
  refine z_i2l (pc2 := 2) rfl rfl (by omega) ?_
  refine z_lconst 0 (pc2 := 3) rfl rfl rfl ?_
  refine z_ldc2 (11) (pc2 := 6) rfl rfl rfl ?_
  refine z_callS (y2 := 157) (as := [_, _, _]) (rest := []) (pc2 := 9) rfl rfl rfl rfl ?_
  refine m_in (by omega) (by omega) (by omega) (fun e1 e1a e1b e1c => ?_)
  show zB _ _ _ _ _ _ [_] _ _
  refine z_zret rfl rfl (by omega) ?_
  show zB _ _ _ _ _ _ [_] _ _
  refine z_if_eq (t := 13) (pc2 := 7) rfl rfl rfl (by omega) (fun c2 => ?_) (fun c2 => ?_)
  ·
    refine z_aload_n (pc2 := 14) rfl rfl rfl ?_
    refine z_iconst (pc2 := 15) rfl rfl ?_
    refine z_callV (y2 := 159) (as := [_]) (rest := []) (pc2 := 18) rfl rfl rfl rfl t56 rfl ?_
    refine z_inl ?_
    refine z_lv (lv2 := [(0, _), (1, _)]) ⟨rfl, rfl, trivial⟩ ?_
    refine z_aload_n (pc2 := 1) rfl rfl rfl ?_
    refine z_iload_n (pc2 := 2) rfl rfl rfl ?_
    refine z_putI (pc2 := 5) rfl rfl rfl rfl rfl rfl t56 (by omega) True.intro ?_
    refine z_iload_n (pc2 := 6) rfl rfl rfl ?_
    refine z_iret rfl rfl ?_
    show zB _ _ _ _ _ _ [_] _ _
    refine z_iret rfl rfl ?_
    exact hK _ _ _ (by repeat (first | exact zFr_rf _ | assumption | refine zFr_a ?_ (by decide) | refine zFr_f ?_ (by decide) | refine zFr_n ?_ (by omega) | refine zFr_h ?_ (by omega) | refine zFr_tok ?_ (by omega)))
  ·
    refine z_iload_n (pc2 := 8) rfl rfl rfl ?_
    refine z_bipush (pc2 := 10) rfl rfl (by decide) ?_
    refine z_icmp_le (t := 19) (pc2 := 13) rfl rfl rfl (by omega) (by omega) (fun c3 => ?_) (fun c3 => ?_)
    ·
      refine z_aload_n (pc2 := 20) rfl rfl rfl ?_
      refine z_callV (y2 := 161) (as := []) (rest := []) (pc2 := 23) rfl rfl rfl rfl t56 rfl ?_
      refine z_inl ?_
      refine z_lv (lv2 := [(0, _)]) ⟨rfl, trivial⟩ ?_
      refine z_aload_n (pc2 := 1) rfl rfl rfl ?_
      refine z_getI (pc2 := 4) 0 rfl rfl rfl rfl rfl t56 ?_
      intro v4 e4 r4 k4
      clear e4
      clear k4
      refine z_sipush (pc2 := 7) rfl rfl (by decide) ?_
      refine z_icmp_lt (t := 14) (pc2 := 10) rfl rfl rfl (by omega) (by omega) (fun c5 => ?_) (fun c5 => ?_)
      ·
        refine z_iconst (pc2 := 15) rfl rfl ?_
        refine z_zret rfl rfl (by omega) ?_
        show zB _ _ _ _ _ _ [_] _ _
        refine z_if_eq (t := 33) (pc2 := 26) rfl rfl rfl (by omega) (fun c6 => ?_) (fun c6 => by exfalso; omega)
        refine z_iload_n (pc2 := 34) rfl rfl rfl ?_
        refine z_iconst (pc2 := 35) rfl rfl ?_
        refine z_icmp_ge (t := 44) (pc2 := 38) rfl rfl rfl (by omega) (by omega) (fun c7 => ?_) (fun c7 => ?_)
        ·
          refine z_aload_n (pc2 := 45) rfl rfl rfl ?_
          refine z_getP (pc2 := 48) rfl rfl rfl rfl t56 ?_
          intro p8 p8e p8k; replace p8k : p8 = some 77 := p8k; clear p8e; subst p8k
          refine z_bipush (pc2 := 50) rfl rfl (by decide) ?_
          refine z_aload_n (pc2 := 51) rfl rfl rfl ?_
          refine z_getI (pc2 := 54) 0 rfl rfl rfl rfl rfl t56 ?_
          intro v9 e9 r9 k9
          clear e9
          replace k9 : (0 : Int) ≤ v9 ∧ v9 ≤ 1 := k9; clear r9
          refine z_imul (pc2 := 55) rfl rfl ?_
          refine z_iload_n (pc2 := 56) rfl rfl rfl ?_
          refine z_iadd (pc2 := 57) rfl rfl ?_
          refine z_iload_n (pc2 := 58) rfl rfl rfl ?_
          refine z_iast (pc2 := 59) rfl rfl t77 (by omega) (by omega) (by decide) (by omega) (by show (-1 : Int) ≤ _ ∧ _ ≤ 40; omega) ?_
          refine z_iconst (pc2 := 60) rfl rfl ?_
          refine z_istore_n (lv2 := [(3, _), (0, _), (1, _), (2, _)]) (pc2 := 61) rfl rfl rfl rfl ?_
          refine z_lv (lv2 := [(0, _), (1, _), (3, _)]) ⟨rfl, rfl, rfl, trivial⟩ ?_
          exact l_text hT (by omega) hK _ _ _ _ (by omega) (by repeat (first | exact zFr_rf _ | assumption | refine zFr_a ?_ (by decide) | refine zFr_f ?_ (by decide) | refine zFr_n ?_ (by omega) | refine zFr_h ?_ (by omega) | refine zFr_tok ?_ (by omega)))  (Nat.lt_succ_self _)
        ·
          refine z_aload_n (pc2 := 39) rfl rfl rfl ?_
          refine z_iconst (pc2 := 40) rfl rfl ?_
          refine z_callV (y2 := 160) (as := [_]) (rest := []) (pc2 := 43) rfl rfl rfl rfl t56 rfl ?_
          refine z_inl ?_
          refine z_lv (lv2 := [(0, _), (1, _)]) ⟨rfl, rfl, trivial⟩ ?_
          refine z_aload_n (pc2 := 1) rfl rfl rfl ?_
          refine z_dup (pc2 := 2) rfl rfl rfl ?_
          refine z_getI (pc2 := 5) 0 rfl rfl rfl rfl rfl t56 ?_
          intro v10 e10 r10 k10
          clear e10
          clear k10
          refine z_iconst (pc2 := 6) rfl rfl ?_
          refine z_iadd (pc2 := 7) rfl rfl ?_
          refine z_putI_any (pc2 := 10) rfl rfl rfl rfl rfl rfl t56 (fun _ _ => True.intro) (fun u11 u11r => ?_); clear u11r
          refine z_aload_n (pc2 := 11) rfl rfl rfl ?_
          refine z_bipush (pc2 := 13) rfl rfl (by decide) ?_
          refine z_iload_n (pc2 := 14) rfl rfl rfl ?_
          refine z_isub (pc2 := 15) rfl rfl ?_
          refine z_putI (pc2 := 18) rfl rfl rfl rfl rfl rfl t56 (by omega) True.intro ?_
          refine z_aload_n (pc2 := 19) rfl rfl rfl ?_
          refine z_getI (pc2 := 22) 0 rfl rfl rfl rfl rfl t56 ?_
          intro v12 e12 r12 k12
          clear e12
          clear k12
          refine z_iret rfl rfl ?_
          show zB _ _ _ _ _ _ [_] _ _
          refine z_iret rfl rfl ?_
          exact hK _ _ _ (by repeat (first | exact zFr_rf _ | assumption | refine zFr_a ?_ (by decide) | refine zFr_f ?_ (by decide) | refine zFr_n ?_ (by omega) | refine zFr_h ?_ (by omega) | refine zFr_tok ?_ (by omega)))
      ·
        refine z_iconst (pc2 := 11) rfl rfl ?_
        refine z_goto (pc2 := 15) rfl rfl ?_
        refine z_zret rfl rfl (by omega) ?_
        show zB _ _ _ _ _ _ [_] _ _
        refine z_if_eq (t := 33) (pc2 := 26) rfl rfl rfl (by omega) (fun c13 => by exfalso; omega) (fun c13 => ?_)
        refine z_aload_n (pc2 := 27) rfl rfl rfl ?_
        refine z_bipush (pc2 := 29) rfl rfl (by decide) ?_
        refine z_callV (y2 := 159) (as := [_]) (rest := []) (pc2 := 32) rfl rfl rfl rfl t56 rfl ?_
        refine z_inl ?_
        refine z_lv (lv2 := [(0, _), (1, _)]) ⟨rfl, rfl, trivial⟩ ?_
        refine z_aload_n (pc2 := 1) rfl rfl rfl ?_
        refine z_iload_n (pc2 := 2) rfl rfl rfl ?_
        refine z_putI (pc2 := 5) rfl rfl rfl rfl rfl rfl t56 (by omega) True.intro ?_
        refine z_iload_n (pc2 := 6) rfl rfl rfl ?_
        refine z_iret rfl rfl ?_
        show zB _ _ _ _ _ _ [_] _ _
        refine z_iret rfl rfl ?_
        exact hK _ _ _ (by repeat (first | exact zFr_rf _ | assumption | refine zFr_a ?_ (by decide) | refine zFr_f ?_ (by decide) | refine zFr_n ?_ (by omega) | refine zFr_h ?_ (by omega) | refine zFr_tok ?_ (by omega)))
    ·
      refine z_aload_n (pc2 := 14) rfl rfl rfl ?_
      refine z_iconst (pc2 := 15) rfl rfl ?_
      refine z_callV (y2 := 159) (as := [_]) (rest := []) (pc2 := 18) rfl rfl rfl rfl t56 rfl ?_
      refine z_inl ?_
      refine z_lv (lv2 := [(0, _), (1, _)]) ⟨rfl, rfl, trivial⟩ ?_
      refine z_aload_n (pc2 := 1) rfl rfl rfl ?_
      refine z_iload_n (pc2 := 2) rfl rfl rfl ?_
      refine z_putI (pc2 := 5) rfl rfl rfl rfl rfl rfl t56 (by omega) True.intro ?_
      refine z_iload_n (pc2 := 6) rfl rfl rfl ?_
      refine z_iret rfl rfl ?_
      show zB _ _ _ _ _ _ [_] _ _
      refine z_iret rfl rfl ?_
      exact hK _ _ _ (by repeat (first | exact zFr_rf _ | assumption | refine zFr_a ?_ (by decide) | refine zFr_f ?_ (by decide) | refine zFr_n ?_ (by omega) | refine zFr_h ?_ (by omega) | refine zFr_tok ?_ (by omega)))
