/-! the reference: the tray -/
set_option maxHeartbeats 8000000 in
theorem m_added {L : Nat} {xs : Nat → Int32} {n sl : Nat} {T : Nat → zT} {I : Nat → Nat → Int} {P : Nat → Nat → Option Nat} {G : Nat → Nat → Int} {K : List zV → zH → Prop} {a b : Int} (hT : ∀ a, 56 ≤ a → a ≤ 90 → T a = zFix a) (ha : zR a) (hb : zR b) (hK : ∀ e I2 G2, zFr I I2 → K [.inl e] (n, sl, T, I2, P, G2)) : zX zMd L xs 217 [.inr (.inl (some 56)), .inl a, .inl b] (n, sl, T, I, P, G) K := by
  have t56 : T 56 = (1, 12, [1]) := hT 56 (by decide) (by decide)
  have t57 : T 57 = (2, 0, [112200, 1]) := hT 57 (by decide) (by decide)
  refine z_inl ?_
  refine z_lv (lv2 := [(0, _), (1, _), (2, _)]) ⟨rfl, rfl, rfl, trivial⟩ ?_
  refine z_iload_n (pc2 := 1) rfl rfl rfl ?_
  refine z_callS (y2 := 211) (as := [_]) (rest := []) (pc2 := 4) rfl rfl rfl rfl ?_
  refine z_inl ?_
  refine z_lv (lv2 := [(0, _)]) ⟨rfl, trivial⟩ ?_
  refine z_iload_n (pc2 := 1) rfl rfl rfl ?_
  refine z_i2l (pc2 := 2) rfl rfl (by omega) ?_
  refine z_lconst 0 (pc2 := 3) rfl rfl rfl ?_
  refine z_ldc2 (9) (pc2 := 6) rfl rfl rfl ?_
  refine z_callS (y2 := 157) (as := [_, _, _]) (rest := []) (pc2 := 9) rfl rfl rfl rfl ?_
  refine m_in (by omega) (by omega) (by omega) (fun e1 e1a e1b e1c => ?_)
  show zB _ _ _ _ _ _ [_] _ _
  refine z_zret rfl rfl (by omega) ?_
  show zB _ _ _ _ _ _ [_] _ _
  refine z_if_eq (t := 19) (pc2 := 7) rfl rfl rfl (by omega) (fun c2 => ?_) (fun c2 => ?_)
  ·
    refine z_aload_n (pc2 := 20) rfl rfl rfl ?_
    refine z_iconst (pc2 := 21) rfl rfl ?_
    refine z_callV (y2 := 159) (as := [_]) (rest := []) (pc2 := 24) rfl rfl rfl rfl t56 rfl ?_
    refine z_inl ?_
    refine z_lv (lv2 := [(0, _), (1, _)]) ⟨rfl, rfl, trivial⟩ ?_
    refine z_aload_n (pc2 := 1) rfl rfl rfl ?_
    refine z_iload_n (pc2 := 2) rfl rfl rfl ?_
    refine z_putI (pc2 := 5) rfl rfl rfl rfl rfl rfl t56 (by omega) True.intro ?_
    refine z_iload_n (pc2 := 6) rfl rfl rfl ?_
    refine z_iret rfl rfl ?_
    show zB _ _ _ _ _ _ [_] _ _
    refine z_iret rfl rfl ?_
    exact hK _ _ _ (by repeat (first | exact zFr_rf _ | assumption | refine zFr_a ?_ (by decide) | refine zFr_f ?_ (by decide) | refine zFr_n ?_ (by omega) | refine zFr_h ?_ (by omega) | refine zFr_tok ?_ (by omega)))
  ·
    refine z_iload_n (pc2 := 8) rfl rfl rfl ?_
    refine z_i2l (pc2 := 9) rfl rfl (by omega) ?_
    refine z_lconst 0 (pc2 := 10) rfl rfl rfl ?_
    refine z_ldc2 (99) (pc2 := 13) rfl rfl rfl ?_
    refine z_callS (y2 := 157) (as := [_, _, _]) (rest := []) (pc2 := 16) rfl rfl rfl rfl ?_
    refine m_in (by omega) (by omega) (by omega) (fun e3 e3a e3b e3c => ?_)
    show zB _ _ _ _ _ _ [_] _ _
    refine z_if_ne (t := 25) (pc2 := 19) rfl rfl rfl (by omega) (fun c4 => ?_) (fun c4 => ?_)
    ·
      refine z_aload_n (pc2 := 26) rfl rfl rfl ?_
      refine z_callV (y2 := 161) (as := []) (rest := []) (pc2 := 29) rfl rfl rfl rfl t56 rfl ?_
      refine z_inl ?_
      refine z_lv (lv2 := [(0, _)]) ⟨rfl, trivial⟩ ?_
      refine z_aload_n (pc2 := 1) rfl rfl rfl ?_
      refine z_getI (pc2 := 4) 0 rfl rfl rfl rfl rfl t56 ?_
      intro v5 e5 r5 k5
      clear e5
      clear k5
      refine z_sipush (pc2 := 7) rfl rfl (by decide) ?_
      refine z_icmp_lt (t := 14) (pc2 := 10) rfl rfl rfl (by omega) (by omega) (fun c6 => ?_) (fun c6 => ?_)
      ·
        refine z_iconst (pc2 := 15) rfl rfl ?_
        refine z_zret rfl rfl (by omega) ?_
        show zB _ _ _ _ _ _ [_] _ _
        refine z_if_eq (t := 39) (pc2 := 32) rfl rfl rfl (by omega) (fun c7 => ?_) (fun c7 => by exfalso; omega)
        refine z_aload_n (pc2 := 40) rfl rfl rfl ?_
        refine z_getP (pc2 := 43) rfl rfl rfl rfl t56 ?_
        intro p8 p8e p8k; replace p8k : p8 = some 57 := p8k; clear p8e; subst p8k
        refine z_aload_n (pc2 := 44) rfl rfl rfl ?_
        refine z_callV (y2 := 162) (as := []) (rest := [_]) (pc2 := 47) rfl rfl rfl rfl t56 rfl ?_
        refine z_inl ?_
        refine z_lv (lv2 := [(0, _)]) ⟨rfl, trivial⟩ ?_
        refine z_ldc (56100) (pc2 := 2) rfl rfl rfl ?_
        refine z_aload_n (pc2 := 3) rfl rfl rfl ?_
        refine z_getI (pc2 := 6) 0 rfl rfl rfl rfl rfl t56 ?_
        intro v9 e9 r9 k9
        clear e9
        replace k9 : (0 : Int) ≤ v9 ∧ v9 ≤ 1 := k9; clear r9
        refine z_imul (pc2 := 7) rfl rfl ?_
        refine z_iret rfl rfl ?_
        show zB _ _ _ _ _ _ [_, _] _ _
        refine z_sipush (pc2 := 50) rfl rfl (by decide) ?_
        refine z_iadd (pc2 := 51) rfl rfl ?_
        refine z_iload_n (pc2 := 52) rfl rfl rfl ?_
        refine z_iadd (pc2 := 53) rfl rfl ?_
        refine z_iald (pc2 := 54) rfl rfl t57 (by omega) (by omega) (by decide) ?_
        intro v10 e10 r10 k10
        clear e10
        replace k10 := ok_stick k10 (by omega)
        refine z_istore_n (lv2 := [(3, _), (0, _), (1, _), (2, _)]) (pc2 := 55) rfl rfl rfl rfl ?_
        refine z_iload_n (pc2 := 56) rfl rfl rfl ?_
        refine z_if_eq (t := 66) (pc2 := 59) rfl rfl rfl (by omega) (fun c11 => ?_) (fun c11 => ?_)
        ·
          refine z_aload_n (pc2 := 67) rfl rfl rfl ?_
          refine z_iload_n (pc2 := 68) rfl rfl rfl ?_
          refine z_if_ne (t := 75) (pc2 := 71) rfl rfl rfl (by omega) (fun c12 => by exfalso; omega) (fun c12 => ?_)
          refine z_iconst (pc2 := 72) rfl rfl ?_
          refine z_goto (pc2 := 76) rfl rfl ?_
          refine z_callV (y2 := 160) (as := [_]) (rest := []) (pc2 := 79) rfl rfl rfl rfl t56 rfl ?_
          refine z_inl ?_
          refine z_lv (lv2 := [(0, _), (1, _)]) ⟨rfl, rfl, trivial⟩ ?_
          refine z_aload_n (pc2 := 1) rfl rfl rfl ?_
          refine z_dup (pc2 := 2) rfl rfl rfl ?_
          refine z_getI (pc2 := 5) 0 rfl rfl rfl rfl rfl t56 ?_
          intro v13 e13 r13 k13
          clear e13
          clear k13
          refine z_iconst (pc2 := 6) rfl rfl ?_
          refine z_iadd (pc2 := 7) rfl rfl ?_
          refine z_putI_any (pc2 := 10) rfl rfl rfl rfl rfl rfl t56 (fun _ _ => True.intro) (fun u14 u14r => ?_); clear u14r
          refine z_aload_n (pc2 := 11) rfl rfl rfl ?_
          refine z_bipush (pc2 := 13) rfl rfl (by decide) ?_
          refine z_iload_n (pc2 := 14) rfl rfl rfl ?_
          refine z_isub (pc2 := 15) rfl rfl ?_
          refine z_putI (pc2 := 18) rfl rfl rfl rfl rfl rfl t56 (by omega) True.intro ?_
          refine z_aload_n (pc2 := 19) rfl rfl rfl ?_
          refine z_getI (pc2 := 22) 0 rfl rfl rfl rfl rfl t56 ?_
          intro v15 e15 r15 k15
          clear e15
          clear k15
          refine z_iret rfl rfl ?_
          show zB _ _ _ _ _ _ [_] _ _
          refine z_iret rfl rfl ?_
          exact hK _ _ _ (by repeat (first | exact zFr_rf _ | assumption | refine zFr_a ?_ (by decide) | refine zFr_f ?_ (by decide) | refine zFr_n ?_ (by omega) | refine zFr_h ?_ (by omega) | refine zFr_tok ?_ (by omega)))
        ·
          refine z_iload_n (pc2 := 60) rfl rfl rfl ?_
          refine z_callS (y2 := 181) (as := [_]) (rest := []) (pc2 := 63) rfl rfl rfl rfl ?_
          refine m_isStretched (by omega) (fun w16 w16r w16g w16h => ?_)
          show zB _ _ _ _ _ _ [_] _ _
          refine z_if_ne (t := 80) (pc2 := 66) rfl rfl rfl (by omega) (fun c17 => ?_) (fun c17 => ?_)
          ·
            refine z_aload_n (pc2 := 81) rfl rfl rfl ?_
            refine z_callV (y2 := 167) (as := []) (rest := []) (pc2 := 84) rfl rfl rfl rfl t56 rfl ?_
            refine m_keep hT (fun Iw18 Gw18 fw18 ow18 => ?_)
            replace fw18 := zFr_tr (I := I) (by repeat (first | exact zFr_rf _ | assumption | refine zFr_a ?_ (by decide) | refine zFr_f ?_ (by decide) | refine zFr_n ?_ (by omega) | refine zFr_h ?_ (by omega) | refine zFr_tok ?_ (by omega))) fw18
            show zB _ _ _ _ _ _ [] _ _
            refine z_aload_n (pc2 := 85) rfl rfl rfl ?_
            refine z_getP (pc2 := 88) rfl rfl rfl rfl t56 ?_
            intro p19 p19e p19k; replace p19k : p19 = some 57 := p19k; clear p19e; subst p19k
            refine z_aload_n (pc2 := 89) rfl rfl rfl ?_
            refine z_callV (y2 := 162) (as := []) (rest := [_]) (pc2 := 92) rfl rfl rfl rfl t56 rfl ?_
            refine z_inl ?_
            refine z_lv (lv2 := [(0, _)]) ⟨rfl, trivial⟩ ?_
            refine z_ldc (56100) (pc2 := 2) rfl rfl rfl ?_
            refine z_aload_n (pc2 := 3) rfl rfl rfl ?_
            refine z_getI (pc2 := 6) 0 rfl rfl rfl rfl rfl t56 ?_
            intro v20 e20 r20 k20
            clear e20
            replace k20 : (0 : Int) ≤ v20 ∧ v20 ≤ 1 := k20; clear r20
            refine z_imul (pc2 := 7) rfl rfl ?_
            refine z_iret rfl rfl ?_
            show zB _ _ _ _ _ _ [_, _] _ _
            refine z_sipush (pc2 := 95) rfl rfl (by decide) ?_
            refine z_iadd (pc2 := 96) rfl rfl ?_
            refine z_iload_n (pc2 := 97) rfl rfl rfl ?_
            refine z_iadd (pc2 := 98) rfl rfl ?_
            refine z_iload_n (pc2 := 99) rfl rfl rfl ?_
            refine z_iload_n (pc2 := 100) rfl rfl rfl ?_
            refine z_callS (y2 := 176) (as := [_, _]) (rest := [_, _]) (pc2 := 103) rfl rfl rfl rfl ?_
            refine m_withAdded (by omega) (by omega) (by assumption) (fun w21 w21r w21g => ?_)
            show zB _ _ _ _ _ _ [_, _, _] _ _
            refine z_iast (pc2 := 104) rfl rfl t57 (by omega) (by omega) (by decide) (by omega) (st_stick (by omega) (by first | assumption | exact zGd_0 | (unfold zGd; refine ⟨⟨?_, ?_⟩, ⟨?_, ?_⟩, ?_⟩ <;> omega))) ?_
            refine z_aload_n (pc2 := 105) rfl rfl rfl ?_
            refine z_iconst (pc2 := 106) rfl rfl ?_
            refine z_callV (y2 := 158) (as := [_]) (rest := []) (pc2 := 109) rfl rfl rfl rfl t56 rfl ?_
            refine z_inl ?_
            refine z_lv (lv2 := [(0, _), (1, _)]) ⟨rfl, rfl, trivial⟩ ?_
            refine z_aload_n (pc2 := 1) rfl rfl rfl ?_
            refine z_iconst (pc2 := 2) rfl rfl ?_
            refine z_putI (pc2 := 5) rfl rfl rfl rfl rfl rfl t56 (by omega) True.intro ?_
            refine z_iload_n (pc2 := 6) rfl rfl rfl ?_
            refine z_iret rfl rfl ?_
            show zB _ _ _ _ _ _ [_] _ _
            refine z_iret rfl rfl ?_
            exact hK _ _ _ (by repeat (first | exact zFr_rf _ | assumption | refine zFr_a ?_ (by decide) | refine zFr_f ?_ (by decide) | refine zFr_n ?_ (by omega) | refine zFr_h ?_ (by omega) | refine zFr_tok ?_ (by omega)))
          ·
            refine z_aload_n (pc2 := 67) rfl rfl rfl ?_
            refine z_iload_n (pc2 := 68) rfl rfl rfl ?_
            refine z_if_ne (t := 75) (pc2 := 71) rfl rfl rfl (by omega) (fun c22 => ?_) (fun c22 => ?_)
            ·
              refine z_iconst (pc2 := 76) rfl rfl ?_
              refine z_callV (y2 := 160) (as := [_]) (rest := []) (pc2 := 79) rfl rfl rfl rfl t56 rfl ?_
              refine z_inl ?_
              refine z_lv (lv2 := [(0, _), (1, _)]) ⟨rfl, rfl, trivial⟩ ?_
              refine z_aload_n (pc2 := 1) rfl rfl rfl ?_
              refine z_dup (pc2 := 2) rfl rfl rfl ?_
              refine z_getI (pc2 := 5) 0 rfl rfl rfl rfl rfl t56 ?_
              intro v23 e23 r23 k23
              clear e23
              clear k23
              refine z_iconst (pc2 := 6) rfl rfl ?_
              refine z_iadd (pc2 := 7) rfl rfl ?_
              refine z_putI_any (pc2 := 10) rfl rfl rfl rfl rfl rfl t56 (fun _ _ => True.intro) (fun u24 u24r => ?_); clear u24r
              refine z_aload_n (pc2 := 11) rfl rfl rfl ?_
              refine z_bipush (pc2 := 13) rfl rfl (by decide) ?_
              refine z_iload_n (pc2 := 14) rfl rfl rfl ?_
              refine z_isub (pc2 := 15) rfl rfl ?_
              refine z_putI (pc2 := 18) rfl rfl rfl rfl rfl rfl t56 (by omega) True.intro ?_
              refine z_aload_n (pc2 := 19) rfl rfl rfl ?_
              refine z_getI (pc2 := 22) 0 rfl rfl rfl rfl rfl t56 ?_
              intro v25 e25 r25 k25
              clear e25
              clear k25
              refine z_iret rfl rfl ?_
              show zB _ _ _ _ _ _ [_] _ _
              refine z_iret rfl rfl ?_
              exact hK _ _ _ (by repeat (first | exact zFr_rf _ | assumption | refine zFr_a ?_ (by decide) | refine zFr_f ?_ (by decide) | refine zFr_n ?_ (by omega) | refine zFr_h ?_ (by omega) | refine zFr_tok ?_ (by omega)))
            ·
              refine z_iconst (pc2 := 72) rfl rfl ?_
              refine z_goto (pc2 := 76) rfl rfl ?_
              refine z_callV (y2 := 160) (as := [_]) (rest := []) (pc2 := 79) rfl rfl rfl rfl t56 rfl ?_
              refine z_inl ?_
              refine z_lv (lv2 := [(0, _), (1, _)]) ⟨rfl, rfl, trivial⟩ ?_
              refine z_aload_n (pc2 := 1) rfl rfl rfl ?_
              refine z_dup (pc2 := 2) rfl rfl rfl ?_
              refine z_getI (pc2 := 5) 0 rfl rfl rfl rfl rfl t56 ?_
              intro v26 e26 r26 k26
              clear e26
              clear k26
              refine z_iconst (pc2 := 6) rfl rfl ?_
              refine z_iadd (pc2 := 7) rfl rfl ?_
              refine z_putI_any (pc2 := 10) rfl rfl rfl rfl rfl rfl t56 (fun _ _ => True.intro) (fun u27 u27r => ?_); clear u27r
              refine z_aload_n (pc2 := 11) rfl rfl rfl ?_
              refine z_bipush (pc2 := 13) rfl rfl (by decide) ?_
              refine z_iload_n (pc2 := 14) rfl rfl rfl ?_
              refine z_isub (pc2 := 15) rfl rfl ?_
              refine z_putI (pc2 := 18) rfl rfl rfl rfl rfl rfl t56 (by omega) True.intro ?_
              refine z_aload_n (pc2 := 19) rfl rfl rfl ?_
              refine z_getI (pc2 := 22) 0 rfl rfl rfl rfl rfl t56 ?_
              intro v28 e28 r28 k28
              clear e28
              clear k28
              refine z_iret rfl rfl ?_
              show zB _ _ _ _ _ _ [_] _ _
              refine z_iret rfl rfl ?_
              exact hK _ _ _ (by repeat (first | exact zFr_rf _ | assumption | refine zFr_a ?_ (by decide) | refine zFr_f ?_ (by decide) | refine zFr_n ?_ (by omega) | refine zFr_h ?_ (by omega) | refine zFr_tok ?_ (by omega)))
      ·
        refine z_iconst (pc2 := 11) rfl rfl ?_
        refine z_goto (pc2 := 15) rfl rfl ?_
        refine z_zret rfl rfl (by omega) ?_
        show zB _ _ _ _ _ _ [_] _ _
        refine z_if_eq (t := 39) (pc2 := 32) rfl rfl rfl (by omega) (fun c29 => by exfalso; omega) (fun c29 => ?_)
        refine z_aload_n (pc2 := 33) rfl rfl rfl ?_
        refine z_bipush (pc2 := 35) rfl rfl (by decide) ?_
        refine z_callV (y2 := 159) (as := [_]) (rest := []) (pc2 := 38) rfl rfl rfl rfl t56 rfl ?_
        refine z_inl ?_
        refine z_lv (lv2 := [(0, _), (1, _)]) ⟨rfl, rfl, trivial⟩ ?_
        refine z_aload_n (pc2 := 1) rfl rfl rfl ?_
        refine z_iload_n (pc2 := 2) rfl rfl rfl ?_
        refine z_putI (pc2 := 5) rfl rfl rfl rfl rfl rfl t56 (by omega) True.intro ?_
        refine z_iload_n (pc2 := 6) rfl rfl rfl ?_
        refine z_iret rfl rfl ?_
        show zB _ _ _ _ _ _ [_] _ _
        refine z_iret rfl rfl ?_
        exact hK _ _ _ (by repeat (first | exact zFr_rf _ | assumption | refine zFr_a ?_ (by decide) | refine zFr_f ?_ (by decide) | refine zFr_n ?_ (by omega) | refine zFr_h ?_ (by omega) | refine zFr_tok ?_ (by omega)))
    ·
      refine z_aload_n (pc2 := 20) rfl rfl rfl ?_
      refine z_iconst (pc2 := 21) rfl rfl ?_
      refine z_callV (y2 := 159) (as := [_]) (rest := []) (pc2 := 24) rfl rfl rfl rfl t56 rfl ?_
      refine z_inl ?_
      refine z_lv (lv2 := [(0, _), (1, _)]) ⟨rfl, rfl, trivial⟩ ?_
      refine z_aload_n (pc2 := 1) rfl rfl rfl ?_
      refine z_iload_n (pc2 := 2) rfl rfl rfl ?_
      refine z_putI (pc2 := 5) rfl rfl rfl rfl rfl rfl t56 (by omega) True.intro ?_
      refine z_iload_n (pc2 := 6) rfl rfl rfl ?_
      refine z_iret rfl rfl ?_
      show zB _ _ _ _ _ _ [_] _ _
      refine z_iret rfl rfl ?_
      exact hK _ _ _ (by repeat (first | exact zFr_rf _ | assumption | refine zFr_a ?_ (by decide) | refine zFr_f ?_ (by decide) | refine zFr_n ?_ (by omega) | refine zFr_h ?_ (by omega) | refine zFr_tok ?_ (by omega)))
set_option maxHeartbeats 8000000 in
theorem m_lay {L : Nat} {xs : Nat → Int32} {n sl : Nat} {T : Nat → zT} {I : Nat → Nat → Int} {P : Nat → Nat → Option Nat} {G : Nat → Nat → Int} {K : List zV → zH → Prop} {a b : Int} (hT : ∀ a, 56 ≤ a → a ≤ 90 → T a = zFix a) (ha : zR a) (hb : zR b) (hK : ∀ e I2 G2, zFr I I2 → K [.inl e] (n, sl, T, I2, P, G2)) : zX zMd L xs 219 [.inr (.inl (some 56)), .inl a, .inl b] (n, sl, T, I, P, G) K := by
  have t56 : T 56 = (1, 12, [1]) := hT 56 (by decide) (by decide)
  have t57 : T 57 = (2, 0, [112200, 1]) := hT 57 (by decide) (by decide)
  refine z_inl ?_
  refine z_lv (lv2 := [(0, _), (1, _), (2, _)]) ⟨rfl, rfl, rfl, trivial⟩ ?_
  refine z_iload_n (pc2 := 1) rfl rfl rfl ?_
  refine z_callS (y2 := 211) (as := [_]) (rest := []) (pc2 := 4) rfl rfl rfl rfl ?_
  refine z_inl ?_
  refine z_lv (lv2 := [(0, _)]) ⟨rfl, trivial⟩ ?_
  refine z_iload_n (pc2 := 1) rfl rfl rfl ?_
  refine z_i2l (pc2 := 2) rfl rfl (by omega) ?_
  refine z_lconst 0 (pc2 := 3) rfl rfl rfl ?_
  refine z_ldc2 (9) (pc2 := 6) rfl rfl rfl ?_
  refine z_callS (y2 := 157) (as := [_, _, _]) (rest := []) (pc2 := 9) rfl rfl rfl rfl ?_
  refine m_in (by omega) (by omega) (by omega) (fun e1 e1a e1b e1c => ?_)
  show zB _ _ _ _ _ _ [_] _ _
  refine z_zret rfl rfl (by omega) ?_
  show zB _ _ _ _ _ _ [_] _ _
  refine z_if_ne (t := 13) (pc2 := 7) rfl rfl rfl (by omega) (fun c2 => ?_) (fun c2 => ?_)
  ·
    refine z_aload_n (pc2 := 14) rfl rfl rfl ?_
    refine z_getP (pc2 := 17) rfl rfl rfl rfl t56 ?_
    intro p3 p3e p3k; replace p3k : p3 = some 57 := p3k; clear p3e; subst p3k
    refine z_aload_n (pc2 := 18) rfl rfl rfl ?_
    refine z_callV (y2 := 162) (as := []) (rest := [_]) (pc2 := 21) rfl rfl rfl rfl t56 rfl ?_
    refine z_inl ?_
    refine z_lv (lv2 := [(0, _)]) ⟨rfl, trivial⟩ ?_
    refine z_ldc (56100) (pc2 := 2) rfl rfl rfl ?_
    refine z_aload_n (pc2 := 3) rfl rfl rfl ?_
    refine z_getI (pc2 := 6) 0 rfl rfl rfl rfl rfl t56 ?_
    intro v4 e4 r4 k4
    clear e4
    replace k4 : (0 : Int) ≤ v4 ∧ v4 ≤ 1 := k4; clear r4
    refine z_imul (pc2 := 7) rfl rfl ?_
    refine z_iret rfl rfl ?_
    show zB _ _ _ _ _ _ [_, _] _ _
    refine z_sipush (pc2 := 24) rfl rfl (by decide) ?_
    refine z_iadd (pc2 := 25) rfl rfl ?_
    refine z_iald (pc2 := 26) rfl rfl t57 (by omega) (by omega) (by decide) ?_
    intro v5 e5 r5 k5
    clear e5
    replace k5 := ok_tray k5 (by omega); clear r5
    refine z_istore_n (lv2 := [(3, _), (0, _), (1, _), (2, _)]) (pc2 := 27) rfl rfl rfl rfl ?_
    refine z_iload_n (pc2 := 28) rfl rfl rfl ?_
    refine z_i2l (pc2 := 29) rfl rfl (by omega) ?_
    refine z_lconst 0 (pc2 := 30) rfl rfl rfl ?_
    refine z_iload_n (pc2 := 31) rfl rfl rfl ?_
    refine z_iconst (pc2 := 32) rfl rfl ?_
    refine z_isub (pc2 := 33) rfl rfl ?_
    refine z_i2l (pc2 := 34) rfl rfl (by omega) ?_
    refine z_callS (y2 := 157) (as := [_, _, _]) (rest := []) (pc2 := 37) rfl rfl rfl rfl ?_
    refine m_in (by omega) (by omega) (by omega) (fun e6 e6a e6b e6c => ?_)
    show zB _ _ _ _ _ _ [_] _ _
    refine z_istore (lv2 := [(4, _), (3, _), (0, _), (1, _), (2, _)]) (pc2 := 39) rfl rfl rfl rfl ?_
    refine z_iload (pc2 := 41) rfl rfl rfl ?_
    refine z_if_eq (t := 69) (pc2 := 44) rfl rfl rfl (by omega) (fun c7 => ?_) (fun c7 => ?_)
    ·
      refine z_aload_n (pc2 := 70) rfl rfl rfl ?_
      refine z_callV (y2 := 161) (as := []) (rest := []) (pc2 := 73) rfl rfl rfl rfl t56 rfl ?_
      refine z_inl ?_
      refine z_lv (lv2 := [(0, _)]) ⟨rfl, trivial⟩ ?_
      refine z_aload_n (pc2 := 1) rfl rfl rfl ?_
      refine z_getI (pc2 := 4) 0 rfl rfl rfl rfl rfl t56 ?_
      intro v8 e8 r8 k8
      clear e8
      clear k8
      refine z_sipush (pc2 := 7) rfl rfl (by decide) ?_
      refine z_icmp_lt (t := 14) (pc2 := 10) rfl rfl rfl (by omega) (by omega) (fun c9 => ?_) (fun c9 => ?_)
      ·
        refine z_iconst (pc2 := 15) rfl rfl ?_
        refine z_zret rfl rfl (by omega) ?_
        show zB _ _ _ _ _ _ [_] _ _
        refine z_if_eq (t := 83) (pc2 := 76) rfl rfl rfl (by omega) (fun c10 => ?_) (fun c10 => by exfalso; omega)
        refine z_iload_n (pc2 := 84) rfl rfl rfl ?_
        refine z_if_lt (t := 92) (pc2 := 87) rfl rfl rfl (by omega) (fun c11 => ?_) (fun c11 => ?_)
        ·
          refine z_aload_n (pc2 := 93) rfl rfl rfl ?_
          refine z_iload_n (pc2 := 94) rfl rfl rfl ?_
          refine z_if_ge (t := 101) (pc2 := 97) rfl rfl rfl (by omega) (fun c12 => by exfalso; omega) (fun c12 => ?_)
          refine z_iconst (pc2 := 98) rfl rfl ?_
          refine z_goto (pc2 := 102) rfl rfl ?_
          refine z_callV (y2 := 160) (as := [_]) (rest := []) (pc2 := 105) rfl rfl rfl rfl t56 rfl ?_
          refine z_inl ?_
          refine z_lv (lv2 := [(0, _), (1, _)]) ⟨rfl, rfl, trivial⟩ ?_
          refine z_aload_n (pc2 := 1) rfl rfl rfl ?_
          refine z_dup (pc2 := 2) rfl rfl rfl ?_
          refine z_getI (pc2 := 5) 0 rfl rfl rfl rfl rfl t56 ?_
          intro v13 e13 r13 k13
          clear e13
          clear k13
          refine z_iconst (pc2 := 6) rfl rfl ?_
          refine z_iadd (pc2 := 7) rfl rfl ?_
          refine z_putI_any (pc2 := 10) rfl rfl rfl rfl rfl rfl t56 (fun _ _ => True.intro) (fun u14 u14r => ?_); clear u14r
          refine z_aload_n (pc2 := 11) rfl rfl rfl ?_
          refine z_bipush (pc2 := 13) rfl rfl (by decide) ?_
          refine z_iload_n (pc2 := 14) rfl rfl rfl ?_
          refine z_isub (pc2 := 15) rfl rfl ?_
          refine z_putI (pc2 := 18) rfl rfl rfl rfl rfl rfl t56 (by omega) True.intro ?_
          refine z_aload_n (pc2 := 19) rfl rfl rfl ?_
          refine z_getI (pc2 := 22) 0 rfl rfl rfl rfl rfl t56 ?_
          intro v15 e15 r15 k15
          clear e15
          clear k15
          refine z_iret rfl rfl ?_
          show zB _ _ _ _ _ _ [_] _ _
          refine z_iret rfl rfl ?_
          exact hK _ _ _ (by repeat (first | exact zFr_rf _ | assumption | refine zFr_a ?_ (by decide) | refine zFr_f ?_ (by decide) | refine zFr_n ?_ (by omega) | refine zFr_h ?_ (by omega) | refine zFr_tok ?_ (by omega)))
        ·
          refine z_iload (pc2 := 89) rfl rfl rfl ?_
          refine z_if_ne (t := 106) (pc2 := 92) rfl rfl rfl (by omega) (fun c16 => by exfalso; omega) (fun c16 => ?_)
          refine z_aload_n (pc2 := 93) rfl rfl rfl ?_
          refine z_iload_n (pc2 := 94) rfl rfl rfl ?_
          refine z_if_ge (t := 101) (pc2 := 97) rfl rfl rfl (by omega) (fun c17 => ?_) (fun c17 => by exfalso; omega)
          refine z_iconst (pc2 := 102) rfl rfl ?_
          refine z_callV (y2 := 160) (as := [_]) (rest := []) (pc2 := 105) rfl rfl rfl rfl t56 rfl ?_
          refine z_inl ?_
          refine z_lv (lv2 := [(0, _), (1, _)]) ⟨rfl, rfl, trivial⟩ ?_
          refine z_aload_n (pc2 := 1) rfl rfl rfl ?_
          refine z_dup (pc2 := 2) rfl rfl rfl ?_
          refine z_getI (pc2 := 5) 0 rfl rfl rfl rfl rfl t56 ?_
          intro v18 e18 r18 k18
          clear e18
          clear k18
          refine z_iconst (pc2 := 6) rfl rfl ?_
          refine z_iadd (pc2 := 7) rfl rfl ?_
          refine z_putI_any (pc2 := 10) rfl rfl rfl rfl rfl rfl t56 (fun _ _ => True.intro) (fun u19 u19r => ?_); clear u19r
          refine z_aload_n (pc2 := 11) rfl rfl rfl ?_
          refine z_bipush (pc2 := 13) rfl rfl (by decide) ?_
          refine z_iload_n (pc2 := 14) rfl rfl rfl ?_
          refine z_isub (pc2 := 15) rfl rfl ?_
          refine z_putI (pc2 := 18) rfl rfl rfl rfl rfl rfl t56 (by omega) True.intro ?_
          refine z_aload_n (pc2 := 19) rfl rfl rfl ?_
          refine z_getI (pc2 := 22) 0 rfl rfl rfl rfl rfl t56 ?_
          intro v20 e20 r20 k20
          clear e20
          clear k20
          refine z_iret rfl rfl ?_
          show zB _ _ _ _ _ _ [_] _ _
          refine z_iret rfl rfl ?_
          exact hK _ _ _ (by repeat (first | exact zFr_rf _ | assumption | refine zFr_a ?_ (by decide) | refine zFr_f ?_ (by decide) | refine zFr_n ?_ (by omega) | refine zFr_h ?_ (by omega) | refine zFr_tok ?_ (by omega)))
      ·
        refine z_iconst (pc2 := 11) rfl rfl ?_
        refine z_goto (pc2 := 15) rfl rfl ?_
        refine z_zret rfl rfl (by omega) ?_
        show zB _ _ _ _ _ _ [_] _ _
        refine z_if_eq (t := 83) (pc2 := 76) rfl rfl rfl (by omega) (fun c21 => by exfalso; omega) (fun c21 => ?_)
        refine z_aload_n (pc2 := 77) rfl rfl rfl ?_
        refine z_bipush (pc2 := 79) rfl rfl (by decide) ?_
        refine z_callV (y2 := 159) (as := [_]) (rest := []) (pc2 := 82) rfl rfl rfl rfl t56 rfl ?_
        refine z_inl ?_
        refine z_lv (lv2 := [(0, _), (1, _)]) ⟨rfl, rfl, trivial⟩ ?_
        refine z_aload_n (pc2 := 1) rfl rfl rfl ?_
        refine z_iload_n (pc2 := 2) rfl rfl rfl ?_
        refine z_putI (pc2 := 5) rfl rfl rfl rfl rfl rfl t56 (by omega) True.intro ?_
        refine z_iload_n (pc2 := 6) rfl rfl rfl ?_
        refine z_iret rfl rfl ?_
        show zB _ _ _ _ _ _ [_] _ _
        refine z_iret rfl rfl ?_
        exact hK _ _ _ (by repeat (first | exact zFr_rf _ | assumption | refine zFr_a ?_ (by decide) | refine zFr_f ?_ (by decide) | refine zFr_n ?_ (by omega) | refine zFr_h ?_ (by omega) | refine zFr_tok ?_ (by omega)))
    ·
      refine z_aload_n (pc2 := 45) rfl rfl rfl ?_
      refine z_getP (pc2 := 48) rfl rfl rfl rfl t56 ?_
      intro p22 p22e p22k; replace p22k : p22 = some 57 := p22k; clear p22e; subst p22k
      refine z_aload_n (pc2 := 49) rfl rfl rfl ?_
      refine z_callV (y2 := 162) (as := []) (rest := [_]) (pc2 := 52) rfl rfl rfl rfl t56 rfl ?_
      refine z_inl ?_
      refine z_lv (lv2 := [(0, _)]) ⟨rfl, trivial⟩ ?_
      refine z_ldc (56100) (pc2 := 2) rfl rfl rfl ?_
      refine z_aload_n (pc2 := 3) rfl rfl rfl ?_
      refine z_getI (pc2 := 6) 0 rfl rfl rfl rfl rfl t56 ?_
      intro v23 e23 r23 k23
      clear e23
      replace k23 : (0 : Int) ≤ v23 ∧ v23 ≤ 1 := k23; clear r23
      refine z_imul (pc2 := 7) rfl rfl ?_
      refine z_iret rfl rfl ?_
      show zB _ _ _ _ _ _ [_, _] _ _
      refine z_sipush (pc2 := 55) rfl rfl (by decide) ?_
      refine z_iadd (pc2 := 56) rfl rfl ?_
      refine z_iload_n (pc2 := 57) rfl rfl rfl ?_
      refine z_iadd (pc2 := 58) rfl rfl ?_
      refine z_iald (pc2 := 59) rfl rfl t57 (by omega) (by omega) (by decide) ?_
      intro v24 e24 r24 k24
      clear e24
      replace k24 := ok_stick k24 (by omega)
      refine z_if_eq (t := 69) (pc2 := 62) rfl rfl rfl (by omega) (fun c25 => ?_) (fun c25 => ?_)
      ·
        refine z_aload_n (pc2 := 70) rfl rfl rfl ?_
        refine z_callV (y2 := 161) (as := []) (rest := []) (pc2 := 73) rfl rfl rfl rfl t56 rfl ?_
        refine z_inl ?_
        refine z_lv (lv2 := [(0, _)]) ⟨rfl, trivial⟩ ?_
        refine z_aload_n (pc2 := 1) rfl rfl rfl ?_
        refine z_getI (pc2 := 4) 0 rfl rfl rfl rfl rfl t56 ?_
        intro v26 e26 r26 k26
        clear e26
        clear k26
        refine z_sipush (pc2 := 7) rfl rfl (by decide) ?_
        refine z_icmp_lt (t := 14) (pc2 := 10) rfl rfl rfl (by omega) (by omega) (fun c27 => ?_) (fun c27 => ?_)
        ·
          refine z_iconst (pc2 := 15) rfl rfl ?_
          refine z_zret rfl rfl (by omega) ?_
          show zB _ _ _ _ _ _ [_] _ _
          refine z_if_eq (t := 83) (pc2 := 76) rfl rfl rfl (by omega) (fun c28 => ?_) (fun c28 => by exfalso; omega)
          refine z_iload_n (pc2 := 84) rfl rfl rfl ?_
          refine z_if_lt (t := 92) (pc2 := 87) rfl rfl rfl (by omega) (fun c29 => ?_) (fun c29 => ?_)
          ·
            refine z_aload_n (pc2 := 93) rfl rfl rfl ?_
            refine z_iload_n (pc2 := 94) rfl rfl rfl ?_
            refine z_if_ge (t := 101) (pc2 := 97) rfl rfl rfl (by omega) (fun c30 => by exfalso; omega) (fun c30 => ?_)
            refine z_iconst (pc2 := 98) rfl rfl ?_
            refine z_goto (pc2 := 102) rfl rfl ?_
            refine z_callV (y2 := 160) (as := [_]) (rest := []) (pc2 := 105) rfl rfl rfl rfl t56 rfl ?_
            refine z_inl ?_
            refine z_lv (lv2 := [(0, _), (1, _)]) ⟨rfl, rfl, trivial⟩ ?_
            refine z_aload_n (pc2 := 1) rfl rfl rfl ?_
            refine z_dup (pc2 := 2) rfl rfl rfl ?_
            refine z_getI (pc2 := 5) 0 rfl rfl rfl rfl rfl t56 ?_
            intro v31 e31 r31 k31
            clear e31
            clear k31
            refine z_iconst (pc2 := 6) rfl rfl ?_
            refine z_iadd (pc2 := 7) rfl rfl ?_
            refine z_putI_any (pc2 := 10) rfl rfl rfl rfl rfl rfl t56 (fun _ _ => True.intro) (fun u32 u32r => ?_); clear u32r
            refine z_aload_n (pc2 := 11) rfl rfl rfl ?_
            refine z_bipush (pc2 := 13) rfl rfl (by decide) ?_
            refine z_iload_n (pc2 := 14) rfl rfl rfl ?_
            refine z_isub (pc2 := 15) rfl rfl ?_
            refine z_putI (pc2 := 18) rfl rfl rfl rfl rfl rfl t56 (by omega) True.intro ?_
            refine z_aload_n (pc2 := 19) rfl rfl rfl ?_
            refine z_getI (pc2 := 22) 0 rfl rfl rfl rfl rfl t56 ?_
            intro v33 e33 r33 k33
            clear e33
            clear k33
            refine z_iret rfl rfl ?_
            show zB _ _ _ _ _ _ [_] _ _
            refine z_iret rfl rfl ?_
            exact hK _ _ _ (by repeat (first | exact zFr_rf _ | assumption | refine zFr_a ?_ (by decide) | refine zFr_f ?_ (by decide) | refine zFr_n ?_ (by omega) | refine zFr_h ?_ (by omega) | refine zFr_tok ?_ (by omega)))
          ·
            refine z_iload (pc2 := 89) rfl rfl rfl ?_
            refine z_if_ne (t := 106) (pc2 := 92) rfl rfl rfl (by omega) (fun c34 => ?_) (fun c34 => by exfalso; omega)
            refine z_aload_n (pc2 := 107) rfl rfl rfl ?_
            refine z_getP (pc2 := 110) rfl rfl rfl rfl t56 ?_
            intro p35 p35e p35k; replace p35k : p35 = some 57 := p35k; clear p35e; subst p35k
            refine z_aload_n (pc2 := 111) rfl rfl rfl ?_
            refine z_callV (y2 := 162) (as := []) (rest := [_]) (pc2 := 114) rfl rfl rfl rfl t56 rfl ?_
            refine z_inl ?_
            refine z_lv (lv2 := [(0, _)]) ⟨rfl, trivial⟩ ?_
            refine z_ldc (56100) (pc2 := 2) rfl rfl rfl ?_
            refine z_aload_n (pc2 := 3) rfl rfl rfl ?_
            refine z_getI (pc2 := 6) 0 rfl rfl rfl rfl rfl t56 ?_
            intro v36 e36 r36 k36
            clear e36
            replace k36 : (0 : Int) ≤ v36 ∧ v36 ≤ 1 := k36; clear r36
            refine z_imul (pc2 := 7) rfl rfl ?_
            refine z_iret rfl rfl ?_
            show zB _ _ _ _ _ _ [_, _] _ _
            refine z_sipush (pc2 := 117) rfl rfl (by decide) ?_
            refine z_iadd (pc2 := 118) rfl rfl ?_
            refine z_iload_n (pc2 := 119) rfl rfl rfl ?_
            refine z_iadd (pc2 := 120) rfl rfl ?_
            refine z_iald (pc2 := 121) rfl rfl t57 (by omega) (by omega) (by decide) ?_
            intro v37 e37 r37 k37
            clear e37
            replace k37 := ok_stick k37 (by omega)
            refine z_istore (lv2 := [(5, _), (4, _), (3, _), (0, _), (1, _), (2, _)]) (pc2 := 123) rfl rfl rfl rfl ?_
            refine z_aload_n (pc2 := 124) rfl rfl rfl ?_
            refine z_getP (pc2 := 127) rfl rfl rfl rfl t56 ?_
            intro p38 p38e p38k; replace p38k : p38 = some 57 := p38k; clear p38e; subst p38k
            refine z_aload_n (pc2 := 128) rfl rfl rfl ?_
            refine z_callV (y2 := 162) (as := []) (rest := [_]) (pc2 := 131) rfl rfl rfl rfl t56 rfl ?_
            refine z_inl ?_
            refine z_lv (lv2 := [(0, _)]) ⟨rfl, trivial⟩ ?_
            refine z_ldc (56100) (pc2 := 2) rfl rfl rfl ?_
            refine z_aload_n (pc2 := 3) rfl rfl rfl ?_
            refine z_getI (pc2 := 6) 0 rfl rfl rfl rfl rfl t56 ?_
            intro v39 e39 r39 k39
            clear e39
            replace k39 : (0 : Int) ≤ v39 ∧ v39 ≤ 1 := k39; clear r39
            refine z_imul (pc2 := 7) rfl rfl ?_
            refine z_iret rfl rfl ?_
            show zB _ _ _ _ _ _ [_, _] _ _
            refine z_sipush (pc2 := 134) rfl rfl (by decide) ?_
            refine z_iadd (pc2 := 135) rfl rfl ?_
            refine z_iald (pc2 := 136) rfl rfl t57 (by omega) (by omega) (by decide) ?_
            intro v40 e40 r40 k40
            clear e40
            clear k40
            refine z_istore (lv2 := [(6, _), (5, _), (4, _), (3, _), (0, _), (1, _), (2, _)]) (pc2 := 138) rfl rfl rfl rfl ?_
            refine z_iload (pc2 := 140) rfl rfl rfl ?_
            refine z_if_eq (t := 178) (pc2 := 143) rfl rfl rfl (by omega) (fun c41 => ?_) (fun c41 => ?_)
            ·
              refine z_aload_n (pc2 := 179) rfl rfl rfl ?_
              refine z_callV (y2 := 167) (as := []) (rest := []) (pc2 := 182) rfl rfl rfl rfl t56 rfl ?_
              refine m_keep hT (fun Iw42 Gw42 fw42 ow42 => ?_)
              replace fw42 := zFr_tr (I := I) (by repeat (first | exact zFr_rf _ | assumption | refine zFr_a ?_ (by decide) | refine zFr_f ?_ (by decide) | refine zFr_n ?_ (by omega) | refine zFr_h ?_ (by omega) | refine zFr_tok ?_ (by omega))) fw42
              show zB _ _ _ _ _ _ [] _ _
              refine z_aload_n (pc2 := 183) rfl rfl rfl ?_
              refine z_getP (pc2 := 186) rfl rfl rfl rfl t56 ?_
              intro p43 p43e p43k; replace p43k : p43 = some 57 := p43k; clear p43e; subst p43k
              refine z_aload_n (pc2 := 187) rfl rfl rfl ?_
              refine z_callV (y2 := 162) (as := []) (rest := [_]) (pc2 := 190) rfl rfl rfl rfl t56 rfl ?_
              refine z_inl ?_
              refine z_lv (lv2 := [(0, _)]) ⟨rfl, trivial⟩ ?_
              refine z_ldc (56100) (pc2 := 2) rfl rfl rfl ?_
              refine z_aload_n (pc2 := 3) rfl rfl rfl ?_
              refine z_getI (pc2 := 6) 0 rfl rfl rfl rfl rfl t56 ?_
              intro v44 e44 r44 k44
              clear e44
              replace k44 : (0 : Int) ≤ v44 ∧ v44 ≤ 1 := k44; clear r44
              refine z_imul (pc2 := 7) rfl rfl ?_
              refine z_iret rfl rfl ?_
              show zB _ _ _ _ _ _ [_, _] _ _
              refine z_sipush (pc2 := 193) rfl rfl (by decide) ?_
              refine z_iadd (pc2 := 194) rfl rfl ?_
              refine z_iload_n (pc2 := 195) rfl rfl rfl ?_
              refine z_iadd (pc2 := 196) rfl rfl ?_
              refine z_iload (pc2 := 198) rfl rfl rfl ?_
              refine z_iast (pc2 := 199) rfl rfl t57 (by omega) (by omega) (by decide) (by omega) (st_stick (by omega) (by first | assumption | exact zGd_0 | (unfold zGd; refine ⟨⟨?_, ?_⟩, ⟨?_, ?_⟩, ?_⟩ <;> omega))) ?_
              refine z_aload_n (pc2 := 200) rfl rfl rfl ?_
              refine z_getP (pc2 := 203) rfl rfl rfl rfl t56 ?_
              intro p45 p45e p45k; replace p45k : p45 = some 57 := p45k; clear p45e; subst p45k
              refine z_aload_n (pc2 := 204) rfl rfl rfl ?_
              refine z_callV (y2 := 162) (as := []) (rest := [_]) (pc2 := 207) rfl rfl rfl rfl t56 rfl ?_
              refine z_inl ?_
              refine z_lv (lv2 := [(0, _)]) ⟨rfl, trivial⟩ ?_
              refine z_ldc (56100) (pc2 := 2) rfl rfl rfl ?_
              refine z_aload_n (pc2 := 3) rfl rfl rfl ?_
              refine z_getI (pc2 := 6) 0 rfl rfl rfl rfl rfl t56 ?_
              intro v46 e46 r46 k46
              clear e46
              replace k46 : (0 : Int) ≤ v46 ∧ v46 ≤ 1 := k46; clear r46
              refine z_imul (pc2 := 7) rfl rfl ?_
              refine z_iret rfl rfl ?_
              show zB _ _ _ _ _ _ [_, _] _ _
              refine z_sipush (pc2 := 210) rfl rfl (by decide) ?_
              refine z_iadd (pc2 := 211) rfl rfl ?_
              refine z_iload_n (pc2 := 212) rfl rfl rfl ?_
              refine z_iadd (pc2 := 213) rfl rfl ?_
              refine z_iconst (pc2 := 214) rfl rfl ?_
              refine z_iast (pc2 := 215) rfl rfl t57 (by omega) (by omega) (by decide) (by omega) (st_stick (by omega) (by first | assumption | exact zGd_0 | (unfold zGd; refine ⟨⟨?_, ?_⟩, ⟨?_, ?_⟩, ?_⟩ <;> omega))) ?_
              refine z_aload_n (pc2 := 216) rfl rfl rfl ?_
              refine z_iconst (pc2 := 217) rfl rfl ?_
              refine z_callV (y2 := 158) (as := [_]) (rest := []) (pc2 := 220) rfl rfl rfl rfl t56 rfl ?_
              refine z_inl ?_
              refine z_lv (lv2 := [(0, _), (1, _)]) ⟨rfl, rfl, trivial⟩ ?_
              refine z_aload_n (pc2 := 1) rfl rfl rfl ?_
              refine z_iconst (pc2 := 2) rfl rfl ?_
              refine z_putI (pc2 := 5) rfl rfl rfl rfl rfl rfl t56 (by omega) True.intro ?_
              refine z_iload_n (pc2 := 6) rfl rfl rfl ?_
              refine z_iret rfl rfl ?_
              show zB _ _ _ _ _ _ [_] _ _
              refine z_iret rfl rfl ?_
              exact hK _ _ _ (by repeat (first | exact zFr_rf _ | assumption | refine zFr_a ?_ (by decide) | refine zFr_f ?_ (by decide) | refine zFr_n ?_ (by omega) | refine zFr_h ?_ (by omega) | refine zFr_tok ?_ (by omega)))
            ·
              refine z_iload (pc2 := 145) rfl rfl rfl ?_
              refine z_iconst (pc2 := 146) rfl rfl ?_
              refine z_icmp_ne (t := 157) (pc2 := 149) rfl rfl rfl (by omega) (by omega) (fun c47 => ?_) (fun c47 => ?_)
              ·
                refine z_iload (pc2 := 159) rfl rfl rfl ?_
                refine z_iconst (pc2 := 160) rfl rfl ?_
                refine z_icmp_ne (t := 178) (pc2 := 163) rfl rfl rfl (by omega) (by omega) (fun c48 => ?_) (fun c48 => ?_)
                ·
                  refine z_aload_n (pc2 := 179) rfl rfl rfl ?_
                  refine z_callV (y2 := 167) (as := []) (rest := []) (pc2 := 182) rfl rfl rfl rfl t56 rfl ?_
                  refine m_keep hT (fun Iw49 Gw49 fw49 ow49 => ?_)
                  replace fw49 := zFr_tr (I := I) (by repeat (first | exact zFr_rf _ | assumption | refine zFr_a ?_ (by decide) | refine zFr_f ?_ (by decide) | refine zFr_n ?_ (by omega) | refine zFr_h ?_ (by omega) | refine zFr_tok ?_ (by omega))) fw49
                  show zB _ _ _ _ _ _ [] _ _
                  refine z_aload_n (pc2 := 183) rfl rfl rfl ?_
                  refine z_getP (pc2 := 186) rfl rfl rfl rfl t56 ?_
                  intro p50 p50e p50k; replace p50k : p50 = some 57 := p50k; clear p50e; subst p50k
                  refine z_aload_n (pc2 := 187) rfl rfl rfl ?_
                  refine z_callV (y2 := 162) (as := []) (rest := [_]) (pc2 := 190) rfl rfl rfl rfl t56 rfl ?_
                  refine z_inl ?_
                  refine z_lv (lv2 := [(0, _)]) ⟨rfl, trivial⟩ ?_
                  refine z_ldc (56100) (pc2 := 2) rfl rfl rfl ?_
                  refine z_aload_n (pc2 := 3) rfl rfl rfl ?_
                  refine z_getI (pc2 := 6) 0 rfl rfl rfl rfl rfl t56 ?_
                  intro v51 e51 r51 k51
                  clear e51
                  replace k51 : (0 : Int) ≤ v51 ∧ v51 ≤ 1 := k51; clear r51
                  refine z_imul (pc2 := 7) rfl rfl ?_
                  refine z_iret rfl rfl ?_
                  show zB _ _ _ _ _ _ [_, _] _ _
                  refine z_sipush (pc2 := 193) rfl rfl (by decide) ?_
                  refine z_iadd (pc2 := 194) rfl rfl ?_
                  refine z_iload_n (pc2 := 195) rfl rfl rfl ?_
                  refine z_iadd (pc2 := 196) rfl rfl ?_
                  refine z_iload (pc2 := 198) rfl rfl rfl ?_
                  refine z_iast (pc2 := 199) rfl rfl t57 (by omega) (by omega) (by decide) (by omega) (st_stick (by omega) (by first | assumption | exact zGd_0 | (unfold zGd; refine ⟨⟨?_, ?_⟩, ⟨?_, ?_⟩, ?_⟩ <;> omega))) ?_
                  refine z_aload_n (pc2 := 200) rfl rfl rfl ?_
                  refine z_getP (pc2 := 203) rfl rfl rfl rfl t56 ?_
                  intro p52 p52e p52k; replace p52k : p52 = some 57 := p52k; clear p52e; subst p52k
                  refine z_aload_n (pc2 := 204) rfl rfl rfl ?_
                  refine z_callV (y2 := 162) (as := []) (rest := [_]) (pc2 := 207) rfl rfl rfl rfl t56 rfl ?_
                  refine z_inl ?_
                  refine z_lv (lv2 := [(0, _)]) ⟨rfl, trivial⟩ ?_
                  refine z_ldc (56100) (pc2 := 2) rfl rfl rfl ?_
                  refine z_aload_n (pc2 := 3) rfl rfl rfl ?_
                  refine z_getI (pc2 := 6) 0 rfl rfl rfl rfl rfl t56 ?_
                  intro v53 e53 r53 k53
                  clear e53
                  replace k53 : (0 : Int) ≤ v53 ∧ v53 ≤ 1 := k53; clear r53
                  refine z_imul (pc2 := 7) rfl rfl ?_
                  refine z_iret rfl rfl ?_
                  show zB _ _ _ _ _ _ [_, _] _ _
                  refine z_sipush (pc2 := 210) rfl rfl (by decide) ?_
                  refine z_iadd (pc2 := 211) rfl rfl ?_
                  refine z_iload_n (pc2 := 212) rfl rfl rfl ?_
                  refine z_iadd (pc2 := 213) rfl rfl ?_
                  refine z_iconst (pc2 := 214) rfl rfl ?_
                  refine z_iast (pc2 := 215) rfl rfl t57 (by omega) (by omega) (by decide) (by omega) (st_stick (by omega) (by first | assumption | exact zGd_0 | (unfold zGd; refine ⟨⟨?_, ?_⟩, ⟨?_, ?_⟩, ?_⟩ <;> omega))) ?_
                  refine z_aload_n (pc2 := 216) rfl rfl rfl ?_
                  refine z_iconst (pc2 := 217) rfl rfl ?_
                  refine z_callV (y2 := 158) (as := [_]) (rest := []) (pc2 := 220) rfl rfl rfl rfl t56 rfl ?_
                  refine z_inl ?_
                  refine z_lv (lv2 := [(0, _), (1, _)]) ⟨rfl, rfl, trivial⟩ ?_
                  refine z_aload_n (pc2 := 1) rfl rfl rfl ?_
                  refine z_iconst (pc2 := 2) rfl rfl ?_
                  refine z_putI (pc2 := 5) rfl rfl rfl rfl rfl rfl t56 (by omega) True.intro ?_
                  refine z_iload_n (pc2 := 6) rfl rfl rfl ?_
                  refine z_iret rfl rfl ?_
                  show zB _ _ _ _ _ _ [_] _ _
                  refine z_iret rfl rfl ?_
                  exact hK _ _ _ (by repeat (first | exact zFr_rf _ | assumption | refine zFr_a ?_ (by decide) | refine zFr_f ?_ (by decide) | refine zFr_n ?_ (by omega) | refine zFr_h ?_ (by omega) | refine zFr_tok ?_ (by omega)))
                ·
                  refine z_iload (pc2 := 165) rfl rfl rfl ?_
                  refine z_callS (y2 := 181) (as := [_]) (rest := []) (pc2 := 168) rfl rfl rfl rfl ?_
                  refine m_isStretched (by omega) (fun w54 w54r w54g w54h => ?_)
                  show zB _ _ _ _ _ _ [_] _ _
                  refine z_if_ne (t := 178) (pc2 := 171) rfl rfl rfl (by omega) (fun c55 => ?_) (fun c55 => ?_)
                  ·
                    refine z_aload_n (pc2 := 179) rfl rfl rfl ?_
                    refine z_callV (y2 := 167) (as := []) (rest := []) (pc2 := 182) rfl rfl rfl rfl t56 rfl ?_
                    refine m_keep hT (fun Iw56 Gw56 fw56 ow56 => ?_)
                    replace fw56 := zFr_tr (I := I) (by repeat (first | exact zFr_rf _ | assumption | refine zFr_a ?_ (by decide) | refine zFr_f ?_ (by decide) | refine zFr_n ?_ (by omega) | refine zFr_h ?_ (by omega) | refine zFr_tok ?_ (by omega))) fw56
                    show zB _ _ _ _ _ _ [] _ _
                    refine z_aload_n (pc2 := 183) rfl rfl rfl ?_
                    refine z_getP (pc2 := 186) rfl rfl rfl rfl t56 ?_
                    intro p57 p57e p57k; replace p57k : p57 = some 57 := p57k; clear p57e; subst p57k
                    refine z_aload_n (pc2 := 187) rfl rfl rfl ?_
                    refine z_callV (y2 := 162) (as := []) (rest := [_]) (pc2 := 190) rfl rfl rfl rfl t56 rfl ?_
                    refine z_inl ?_
                    refine z_lv (lv2 := [(0, _)]) ⟨rfl, trivial⟩ ?_
                    refine z_ldc (56100) (pc2 := 2) rfl rfl rfl ?_
                    refine z_aload_n (pc2 := 3) rfl rfl rfl ?_
                    refine z_getI (pc2 := 6) 0 rfl rfl rfl rfl rfl t56 ?_
                    intro v58 e58 r58 k58
                    clear e58
                    replace k58 : (0 : Int) ≤ v58 ∧ v58 ≤ 1 := k58; clear r58
                    refine z_imul (pc2 := 7) rfl rfl ?_
                    refine z_iret rfl rfl ?_
                    show zB _ _ _ _ _ _ [_, _] _ _
                    refine z_sipush (pc2 := 193) rfl rfl (by decide) ?_
                    refine z_iadd (pc2 := 194) rfl rfl ?_
                    refine z_iload_n (pc2 := 195) rfl rfl rfl ?_
                    refine z_iadd (pc2 := 196) rfl rfl ?_
                    refine z_iload (pc2 := 198) rfl rfl rfl ?_
                    refine z_iast (pc2 := 199) rfl rfl t57 (by omega) (by omega) (by decide) (by omega) (st_stick (by omega) (by first | assumption | exact zGd_0 | (unfold zGd; refine ⟨⟨?_, ?_⟩, ⟨?_, ?_⟩, ?_⟩ <;> omega))) ?_
                    refine z_aload_n (pc2 := 200) rfl rfl rfl ?_
                    refine z_getP (pc2 := 203) rfl rfl rfl rfl t56 ?_
                    intro p59 p59e p59k; replace p59k : p59 = some 57 := p59k; clear p59e; subst p59k
                    refine z_aload_n (pc2 := 204) rfl rfl rfl ?_
                    refine z_callV (y2 := 162) (as := []) (rest := [_]) (pc2 := 207) rfl rfl rfl rfl t56 rfl ?_
                    refine z_inl ?_
                    refine z_lv (lv2 := [(0, _)]) ⟨rfl, trivial⟩ ?_
                    refine z_ldc (56100) (pc2 := 2) rfl rfl rfl ?_
                    refine z_aload_n (pc2 := 3) rfl rfl rfl ?_
                    refine z_getI (pc2 := 6) 0 rfl rfl rfl rfl rfl t56 ?_
                    intro v60 e60 r60 k60
                    clear e60
                    replace k60 : (0 : Int) ≤ v60 ∧ v60 ≤ 1 := k60; clear r60
                    refine z_imul (pc2 := 7) rfl rfl ?_
                    refine z_iret rfl rfl ?_
                    show zB _ _ _ _ _ _ [_, _] _ _
                    refine z_sipush (pc2 := 210) rfl rfl (by decide) ?_
                    refine z_iadd (pc2 := 211) rfl rfl ?_
                    refine z_iload_n (pc2 := 212) rfl rfl rfl ?_
                    refine z_iadd (pc2 := 213) rfl rfl ?_
                    refine z_iconst (pc2 := 214) rfl rfl ?_
                    refine z_iast (pc2 := 215) rfl rfl t57 (by omega) (by omega) (by decide) (by omega) (st_stick (by omega) (by first | assumption | exact zGd_0 | (unfold zGd; refine ⟨⟨?_, ?_⟩, ⟨?_, ?_⟩, ?_⟩ <;> omega))) ?_
                    refine z_aload_n (pc2 := 216) rfl rfl rfl ?_
                    refine z_iconst (pc2 := 217) rfl rfl ?_
                    refine z_callV (y2 := 158) (as := [_]) (rest := []) (pc2 := 220) rfl rfl rfl rfl t56 rfl ?_
                    refine z_inl ?_
                    refine z_lv (lv2 := [(0, _), (1, _)]) ⟨rfl, rfl, trivial⟩ ?_
                    refine z_aload_n (pc2 := 1) rfl rfl rfl ?_
                    refine z_iconst (pc2 := 2) rfl rfl ?_
                    refine z_putI (pc2 := 5) rfl rfl rfl rfl rfl rfl t56 (by omega) True.intro ?_
                    refine z_iload_n (pc2 := 6) rfl rfl rfl ?_
                    refine z_iret rfl rfl ?_
                    show zB _ _ _ _ _ _ [_] _ _
                    refine z_iret rfl rfl ?_
                    exact hK _ _ _ (by repeat (first | exact zFr_rf _ | assumption | refine zFr_a ?_ (by decide) | refine zFr_f ?_ (by decide) | refine zFr_n ?_ (by omega) | refine zFr_h ?_ (by omega) | refine zFr_tok ?_ (by omega)))
                  ·
                    refine z_aload_n (pc2 := 172) rfl rfl rfl ?_
                    refine z_bipush (pc2 := 174) rfl rfl (by decide) ?_
                    refine z_callV (y2 := 160) (as := [_]) (rest := []) (pc2 := 177) rfl rfl rfl rfl t56 rfl ?_
                    refine z_inl ?_
                    refine z_lv (lv2 := [(0, _), (1, _)]) ⟨rfl, rfl, trivial⟩ ?_
                    refine z_aload_n (pc2 := 1) rfl rfl rfl ?_
                    refine z_dup (pc2 := 2) rfl rfl rfl ?_
                    refine z_getI (pc2 := 5) 0 rfl rfl rfl rfl rfl t56 ?_
                    intro v61 e61 r61 k61
                    clear e61
                    clear k61
                    refine z_iconst (pc2 := 6) rfl rfl ?_
                    refine z_iadd (pc2 := 7) rfl rfl ?_
                    refine z_putI_any (pc2 := 10) rfl rfl rfl rfl rfl rfl t56 (fun _ _ => True.intro) (fun u62 u62r => ?_); clear u62r
                    refine z_aload_n (pc2 := 11) rfl rfl rfl ?_
                    refine z_bipush (pc2 := 13) rfl rfl (by decide) ?_
                    refine z_iload_n (pc2 := 14) rfl rfl rfl ?_
                    refine z_isub (pc2 := 15) rfl rfl ?_
                    refine z_putI (pc2 := 18) rfl rfl rfl rfl rfl rfl t56 (by omega) True.intro ?_
                    refine z_aload_n (pc2 := 19) rfl rfl rfl ?_
                    refine z_getI (pc2 := 22) 0 rfl rfl rfl rfl rfl t56 ?_
                    intro v63 e63 r63 k63
                    clear e63
                    clear k63
                    refine z_iret rfl rfl ?_
                    show zB _ _ _ _ _ _ [_] _ _
                    refine z_iret rfl rfl ?_
                    exact hK _ _ _ (by repeat (first | exact zFr_rf _ | assumption | refine zFr_a ?_ (by decide) | refine zFr_f ?_ (by decide) | refine zFr_n ?_ (by omega) | refine zFr_h ?_ (by omega) | refine zFr_tok ?_ (by omega)))
              ·
                refine z_iload (pc2 := 151) rfl rfl rfl ?_
                refine z_callS (y2 := 180) (as := [_]) (rest := []) (pc2 := 154) rfl rfl rfl rfl ?_
                refine m_isLetter (by omega) (fun w64 w64r w64g w64h => ?_)
                show zB _ _ _ _ _ _ [_] _ _
                refine z_if_eq (t := 171) (pc2 := 157) rfl rfl rfl (by omega) (fun c65 => ?_) (fun c65 => ?_)
                ·
                  refine z_aload_n (pc2 := 172) rfl rfl rfl ?_
                  refine z_bipush (pc2 := 174) rfl rfl (by decide) ?_
                  refine z_callV (y2 := 160) (as := [_]) (rest := []) (pc2 := 177) rfl rfl rfl rfl t56 rfl ?_
                  refine z_inl ?_
                  refine z_lv (lv2 := [(0, _), (1, _)]) ⟨rfl, rfl, trivial⟩ ?_
                  refine z_aload_n (pc2 := 1) rfl rfl rfl ?_
                  refine z_dup (pc2 := 2) rfl rfl rfl ?_
                  refine z_getI (pc2 := 5) 0 rfl rfl rfl rfl rfl t56 ?_
                  intro v66 e66 r66 k66
                  clear e66
                  clear k66
                  refine z_iconst (pc2 := 6) rfl rfl ?_
                  refine z_iadd (pc2 := 7) rfl rfl ?_
                  refine z_putI_any (pc2 := 10) rfl rfl rfl rfl rfl rfl t56 (fun _ _ => True.intro) (fun u67 u67r => ?_); clear u67r
                  refine z_aload_n (pc2 := 11) rfl rfl rfl ?_
                  refine z_bipush (pc2 := 13) rfl rfl (by decide) ?_
                  refine z_iload_n (pc2 := 14) rfl rfl rfl ?_
                  refine z_isub (pc2 := 15) rfl rfl ?_
                  refine z_putI (pc2 := 18) rfl rfl rfl rfl rfl rfl t56 (by omega) True.intro ?_
                  refine z_aload_n (pc2 := 19) rfl rfl rfl ?_
                  refine z_getI (pc2 := 22) 0 rfl rfl rfl rfl rfl t56 ?_
                  intro v68 e68 r68 k68
                  clear e68
                  clear k68
                  refine z_iret rfl rfl ?_
                  show zB _ _ _ _ _ _ [_] _ _
                  refine z_iret rfl rfl ?_
                  exact hK _ _ _ (by repeat (first | exact zFr_rf _ | assumption | refine zFr_a ?_ (by decide) | refine zFr_f ?_ (by decide) | refine zFr_n ?_ (by omega) | refine zFr_h ?_ (by omega) | refine zFr_tok ?_ (by omega)))
                ·
                  refine z_iload (pc2 := 159) rfl rfl rfl ?_
                  refine z_iconst (pc2 := 160) rfl rfl ?_
                  refine z_icmp_ne (t := 178) (pc2 := 163) rfl rfl rfl (by omega) (by omega) (fun c69 => ?_) (fun c69 => by exfalso; omega)
                  refine z_aload_n (pc2 := 179) rfl rfl rfl ?_
                  refine z_callV (y2 := 167) (as := []) (rest := []) (pc2 := 182) rfl rfl rfl rfl t56 rfl ?_
                  refine m_keep hT (fun Iw70 Gw70 fw70 ow70 => ?_)
                  replace fw70 := zFr_tr (I := I) (by repeat (first | exact zFr_rf _ | assumption | refine zFr_a ?_ (by decide) | refine zFr_f ?_ (by decide) | refine zFr_n ?_ (by omega) | refine zFr_h ?_ (by omega) | refine zFr_tok ?_ (by omega))) fw70
                  show zB _ _ _ _ _ _ [] _ _
                  refine z_aload_n (pc2 := 183) rfl rfl rfl ?_
                  refine z_getP (pc2 := 186) rfl rfl rfl rfl t56 ?_
                  intro p71 p71e p71k; replace p71k : p71 = some 57 := p71k; clear p71e; subst p71k
                  refine z_aload_n (pc2 := 187) rfl rfl rfl ?_
                  refine z_callV (y2 := 162) (as := []) (rest := [_]) (pc2 := 190) rfl rfl rfl rfl t56 rfl ?_
                  refine z_inl ?_
                  refine z_lv (lv2 := [(0, _)]) ⟨rfl, trivial⟩ ?_
                  refine z_ldc (56100) (pc2 := 2) rfl rfl rfl ?_
                  refine z_aload_n (pc2 := 3) rfl rfl rfl ?_
                  refine z_getI (pc2 := 6) 0 rfl rfl rfl rfl rfl t56 ?_
                  intro v72 e72 r72 k72
                  clear e72
                  replace k72 : (0 : Int) ≤ v72 ∧ v72 ≤ 1 := k72; clear r72
                  refine z_imul (pc2 := 7) rfl rfl ?_
                  refine z_iret rfl rfl ?_
                  show zB _ _ _ _ _ _ [_, _] _ _
                  refine z_sipush (pc2 := 193) rfl rfl (by decide) ?_
                  refine z_iadd (pc2 := 194) rfl rfl ?_
                  refine z_iload_n (pc2 := 195) rfl rfl rfl ?_
                  refine z_iadd (pc2 := 196) rfl rfl ?_
                  refine z_iload (pc2 := 198) rfl rfl rfl ?_
                  refine z_iast (pc2 := 199) rfl rfl t57 (by omega) (by omega) (by decide) (by omega) (st_stick (by omega) (by first | assumption | exact zGd_0 | (unfold zGd; refine ⟨⟨?_, ?_⟩, ⟨?_, ?_⟩, ?_⟩ <;> omega))) ?_
                  refine z_aload_n (pc2 := 200) rfl rfl rfl ?_
                  refine z_getP (pc2 := 203) rfl rfl rfl rfl t56 ?_
                  intro p73 p73e p73k; replace p73k : p73 = some 57 := p73k; clear p73e; subst p73k
                  refine z_aload_n (pc2 := 204) rfl rfl rfl ?_
                  refine z_callV (y2 := 162) (as := []) (rest := [_]) (pc2 := 207) rfl rfl rfl rfl t56 rfl ?_
                  refine z_inl ?_
                  refine z_lv (lv2 := [(0, _)]) ⟨rfl, trivial⟩ ?_
                  refine z_ldc (56100) (pc2 := 2) rfl rfl rfl ?_
                  refine z_aload_n (pc2 := 3) rfl rfl rfl ?_
                  refine z_getI (pc2 := 6) 0 rfl rfl rfl rfl rfl t56 ?_
                  intro v74 e74 r74 k74
                  clear e74
                  replace k74 : (0 : Int) ≤ v74 ∧ v74 ≤ 1 := k74; clear r74
                  refine z_imul (pc2 := 7) rfl rfl ?_
                  refine z_iret rfl rfl ?_
                  show zB _ _ _ _ _ _ [_, _] _ _
                  refine z_sipush (pc2 := 210) rfl rfl (by decide) ?_
                  refine z_iadd (pc2 := 211) rfl rfl ?_
                  refine z_iload_n (pc2 := 212) rfl rfl rfl ?_
                  refine z_iadd (pc2 := 213) rfl rfl ?_
                  refine z_iconst (pc2 := 214) rfl rfl ?_
                  refine z_iast (pc2 := 215) rfl rfl t57 (by omega) (by omega) (by decide) (by omega) (st_stick (by omega) (by first | assumption | exact zGd_0 | (unfold zGd; refine ⟨⟨?_, ?_⟩, ⟨?_, ?_⟩, ?_⟩ <;> omega))) ?_
                  refine z_aload_n (pc2 := 216) rfl rfl rfl ?_
                  refine z_iconst (pc2 := 217) rfl rfl ?_
                  refine z_callV (y2 := 158) (as := [_]) (rest := []) (pc2 := 220) rfl rfl rfl rfl t56 rfl ?_
                  refine z_inl ?_
                  refine z_lv (lv2 := [(0, _), (1, _)]) ⟨rfl, rfl, trivial⟩ ?_
                  refine z_aload_n (pc2 := 1) rfl rfl rfl ?_
                  refine z_iconst (pc2 := 2) rfl rfl ?_
                  refine z_putI (pc2 := 5) rfl rfl rfl rfl rfl rfl t56 (by omega) True.intro ?_
                  refine z_iload_n (pc2 := 6) rfl rfl rfl ?_
                  refine z_iret rfl rfl ?_
                  show zB _ _ _ _ _ _ [_] _ _
                  refine z_iret rfl rfl ?_
                  exact hK _ _ _ (by repeat (first | exact zFr_rf _ | assumption | refine zFr_a ?_ (by decide) | refine zFr_f ?_ (by decide) | refine zFr_n ?_ (by omega) | refine zFr_h ?_ (by omega) | refine zFr_tok ?_ (by omega)))
        ·
          refine z_iconst (pc2 := 11) rfl rfl ?_
          refine z_goto (pc2 := 15) rfl rfl ?_
          refine z_zret rfl rfl (by omega) ?_
          show zB _ _ _ _ _ _ [_] _ _
          refine z_if_eq (t := 83) (pc2 := 76) rfl rfl rfl (by omega) (fun c75 => by exfalso; omega) (fun c75 => ?_)
          refine z_aload_n (pc2 := 77) rfl rfl rfl ?_
          refine z_bipush (pc2 := 79) rfl rfl (by decide) ?_
          refine z_callV (y2 := 159) (as := [_]) (rest := []) (pc2 := 82) rfl rfl rfl rfl t56 rfl ?_
          refine z_inl ?_
          refine z_lv (lv2 := [(0, _), (1, _)]) ⟨rfl, rfl, trivial⟩ ?_
          refine z_aload_n (pc2 := 1) rfl rfl rfl ?_
          refine z_iload_n (pc2 := 2) rfl rfl rfl ?_
          refine z_putI (pc2 := 5) rfl rfl rfl rfl rfl rfl t56 (by omega) True.intro ?_
          refine z_iload_n (pc2 := 6) rfl rfl rfl ?_
          refine z_iret rfl rfl ?_
          show zB _ _ _ _ _ _ [_] _ _
          refine z_iret rfl rfl ?_
          exact hK _ _ _ (by repeat (first | exact zFr_rf _ | assumption | refine zFr_a ?_ (by decide) | refine zFr_f ?_ (by decide) | refine zFr_n ?_ (by omega) | refine zFr_h ?_ (by omega) | refine zFr_tok ?_ (by omega)))
      ·
        refine z_aload_n (pc2 := 63) rfl rfl rfl ?_
        refine z_bipush (pc2 := 65) rfl rfl (by decide) ?_
        refine z_callV (y2 := 159) (as := [_]) (rest := []) (pc2 := 68) rfl rfl rfl rfl t56 rfl ?_
        refine z_inl ?_
        refine z_lv (lv2 := [(0, _), (1, _)]) ⟨rfl, rfl, trivial⟩ ?_
        refine z_aload_n (pc2 := 1) rfl rfl rfl ?_
        refine z_iload_n (pc2 := 2) rfl rfl rfl ?_
        refine z_putI (pc2 := 5) rfl rfl rfl rfl rfl rfl t56 (by omega) True.intro ?_
        refine z_iload_n (pc2 := 6) rfl rfl rfl ?_
        refine z_iret rfl rfl ?_
        show zB _ _ _ _ _ _ [_] _ _
        refine z_iret rfl rfl ?_
        exact hK _ _ _ (by repeat (first | exact zFr_rf _ | assumption | refine zFr_a ?_ (by decide) | refine zFr_f ?_ (by decide) | refine zFr_n ?_ (by omega) | refine zFr_h ?_ (by omega) | refine zFr_tok ?_ (by omega)))
  ·
    refine z_aload_n (pc2 := 8) rfl rfl rfl ?_
    refine z_iconst (pc2 := 9) rfl rfl ?_
    refine z_callV (y2 := 159) (as := [_]) (rest := []) (pc2 := 12) rfl rfl rfl rfl t56 rfl ?_
    refine z_inl ?_
    refine z_lv (lv2 := [(0, _), (1, _)]) ⟨rfl, rfl, trivial⟩ ?_
    refine z_aload_n (pc2 := 1) rfl rfl rfl ?_
    refine z_iload_n (pc2 := 2) rfl rfl rfl ?_
    refine z_putI (pc2 := 5) rfl rfl rfl rfl rfl rfl t56 (by omega) True.intro ?_
    refine z_iload_n (pc2 := 6) rfl rfl rfl ?_
    refine z_iret rfl rfl ?_
    show zB _ _ _ _ _ _ [_] _ _
    refine z_iret rfl rfl ?_
    exact hK _ _ _ (by repeat (first | exact zFr_rf _ | assumption | refine zFr_a ?_ (by decide) | refine zFr_f ?_ (by decide) | refine zFr_n ?_ (by omega) | refine zFr_h ?_ (by omega) | refine zFr_tok ?_ (by omega)))
set_option maxHeartbeats 8000000 in
theorem m_pick {L : Nat} {xs : Nat → Int32} {n sl : Nat} {T : Nat → zT} {I : Nat → Nat → Int} {P : Nat → Nat → Option Nat} {G : Nat → Nat → Int} {K : List zV → zH → Prop} {a b : Int} (hT : ∀ a, 56 ≤ a → a ≤ 90 → T a = zFix a) (ha : zR a) (hb : zR b) (hK : ∀ e I2 G2, zFr I I2 → K [.inl e] (n, sl, T, I2, P, G2)) : zX zMd L xs 220 [.inr (.inl (some 56)), .inl a, .inl b] (n, sl, T, I, P, G) K := by
  have t56 : T 56 = (1, 12, [1]) := hT 56 (by decide) (by decide)
  have t57 : T 57 = (2, 0, [112200, 1]) := hT 57 (by decide) (by decide)
  refine z_inl ?_
  refine z_lv (lv2 := [(0, _), (1, _), (2, _)]) ⟨rfl, rfl, rfl, trivial⟩ ?_
  refine z_iload_n (pc2 := 1) rfl rfl rfl ?_
  refine z_callS (y2 := 211) (as := [_]) (rest := []) (pc2 := 4) rfl rfl rfl rfl ?_
  refine z_inl ?_
  refine z_lv (lv2 := [(0, _)]) ⟨rfl, trivial⟩ ?_
  refine z_iload_n (pc2 := 1) rfl rfl rfl ?_
  refine z_i2l (pc2 := 2) rfl rfl (by omega) ?_
  refine z_lconst 0 (pc2 := 3) rfl rfl rfl ?_
  refine z_ldc2 (9) (pc2 := 6) rfl rfl rfl ?_
  refine z_callS (y2 := 157) (as := [_, _, _]) (rest := []) (pc2 := 9) rfl rfl rfl rfl ?_
  refine m_in (by omega) (by omega) (by omega) (fun e1 e1a e1b e1c => ?_)
  show zB _ _ _ _ _ _ [_] _ _
  refine z_zret rfl rfl (by omega) ?_
  show zB _ _ _ _ _ _ [_] _ _
  refine z_if_ne (t := 13) (pc2 := 7) rfl rfl rfl (by omega) (fun c2 => ?_) (fun c2 => ?_)
  ·
    refine z_aload_n (pc2 := 14) rfl rfl rfl ?_
    refine z_getP (pc2 := 17) rfl rfl rfl rfl t56 ?_
    intro p3 p3e p3k; replace p3k : p3 = some 57 := p3k; clear p3e; subst p3k
    refine z_aload_n (pc2 := 18) rfl rfl rfl ?_
    refine z_callV (y2 := 162) (as := []) (rest := [_]) (pc2 := 21) rfl rfl rfl rfl t56 rfl ?_
    refine z_inl ?_
    refine z_lv (lv2 := [(0, _)]) ⟨rfl, trivial⟩ ?_
    refine z_ldc (56100) (pc2 := 2) rfl rfl rfl ?_
    refine z_aload_n (pc2 := 3) rfl rfl rfl ?_
    refine z_getI (pc2 := 6) 0 rfl rfl rfl rfl rfl t56 ?_
    intro v4 e4 r4 k4
    clear e4
    replace k4 : (0 : Int) ≤ v4 ∧ v4 ≤ 1 := k4; clear r4
    refine z_imul (pc2 := 7) rfl rfl ?_
    refine z_iret rfl rfl ?_
    show zB _ _ _ _ _ _ [_, _] _ _
    refine z_sipush (pc2 := 24) rfl rfl (by decide) ?_
    refine z_iadd (pc2 := 25) rfl rfl ?_
    refine z_iload_n (pc2 := 26) rfl rfl rfl ?_
    refine z_iadd (pc2 := 27) rfl rfl ?_
    refine z_iald (pc2 := 28) rfl rfl t57 (by omega) (by omega) (by decide) ?_
    intro v5 e5 r5 k5
    clear e5
    replace k5 := ok_stick k5 (by omega)
    refine z_if_eq (t := 38) (pc2 := 31) rfl rfl rfl (by omega) (fun c6 => ?_) (fun c6 => ?_)
    ·
      refine z_aload_n (pc2 := 39) rfl rfl rfl ?_
      refine z_callV (y2 := 161) (as := []) (rest := []) (pc2 := 42) rfl rfl rfl rfl t56 rfl ?_
      refine z_inl ?_
      refine z_lv (lv2 := [(0, _)]) ⟨rfl, trivial⟩ ?_
      refine z_aload_n (pc2 := 1) rfl rfl rfl ?_
      refine z_getI (pc2 := 4) 0 rfl rfl rfl rfl rfl t56 ?_
      intro v7 e7 r7 k7
      clear e7
      clear k7
      refine z_sipush (pc2 := 7) rfl rfl (by decide) ?_
      refine z_icmp_lt (t := 14) (pc2 := 10) rfl rfl rfl (by omega) (by omega) (fun c8 => ?_) (fun c8 => ?_)
      ·
        refine z_iconst (pc2 := 15) rfl rfl ?_
        refine z_zret rfl rfl (by omega) ?_
        show zB _ _ _ _ _ _ [_] _ _
        refine z_if_eq (t := 52) (pc2 := 45) rfl rfl rfl (by omega) (fun c9 => ?_) (fun c9 => by exfalso; omega)
        refine z_aload_n (pc2 := 53) rfl rfl rfl ?_
        refine z_getP (pc2 := 56) rfl rfl rfl rfl t56 ?_
        intro p10 p10e p10k; replace p10k : p10 = some 57 := p10k; clear p10e; subst p10k
        refine z_aload_n (pc2 := 57) rfl rfl rfl ?_
        refine z_callV (y2 := 162) (as := []) (rest := [_]) (pc2 := 60) rfl rfl rfl rfl t56 rfl ?_
        refine z_inl ?_
        refine z_lv (lv2 := [(0, _)]) ⟨rfl, trivial⟩ ?_
        refine z_ldc (56100) (pc2 := 2) rfl rfl rfl ?_
        refine z_aload_n (pc2 := 3) rfl rfl rfl ?_
        refine z_getI (pc2 := 6) 0 rfl rfl rfl rfl rfl t56 ?_
        intro v11 e11 r11 k11
        clear e11
        replace k11 : (0 : Int) ≤ v11 ∧ v11 ≤ 1 := k11; clear r11
        refine z_imul (pc2 := 7) rfl rfl ?_
        refine z_iret rfl rfl ?_
        show zB _ _ _ _ _ _ [_, _] _ _
        refine z_sipush (pc2 := 63) rfl rfl (by decide) ?_
        refine z_iadd (pc2 := 64) rfl rfl ?_
        refine z_iald (pc2 := 65) rfl rfl t57 (by omega) (by omega) (by decide) ?_
        intro v12 e12 r12 k12
        clear e12
        replace k12 := ok_tray k12 (by omega); clear r12
        refine z_istore_n (lv2 := [(3, _), (0, _), (1, _), (2, _)]) (pc2 := 66) rfl rfl rfl rfl ?_
        refine z_iload_n (pc2 := 67) rfl rfl rfl ?_
        refine z_if_lt (t := 83) (pc2 := 70) rfl rfl rfl (by omega) (fun c13 => ?_) (fun c13 => ?_)
        ·
          refine z_aload_n (pc2 := 84) rfl rfl rfl ?_
          refine z_iload_n (pc2 := 85) rfl rfl rfl ?_
          refine z_if_ge (t := 92) (pc2 := 88) rfl rfl rfl (by omega) (fun c14 => by exfalso; omega) (fun c14 => ?_)
          refine z_iconst (pc2 := 89) rfl rfl ?_
          refine z_goto (pc2 := 93) rfl rfl ?_
          refine z_callV (y2 := 160) (as := [_]) (rest := []) (pc2 := 96) rfl rfl rfl rfl t56 rfl ?_
          refine z_inl ?_
          refine z_lv (lv2 := [(0, _), (1, _)]) ⟨rfl, rfl, trivial⟩ ?_
          refine z_aload_n (pc2 := 1) rfl rfl rfl ?_
          refine z_dup (pc2 := 2) rfl rfl rfl ?_
          refine z_getI (pc2 := 5) 0 rfl rfl rfl rfl rfl t56 ?_
          intro v15 e15 r15 k15
          clear e15
          clear k15
          refine z_iconst (pc2 := 6) rfl rfl ?_
          refine z_iadd (pc2 := 7) rfl rfl ?_
          refine z_putI_any (pc2 := 10) rfl rfl rfl rfl rfl rfl t56 (fun _ _ => True.intro) (fun u16 u16r => ?_); clear u16r
          refine z_aload_n (pc2 := 11) rfl rfl rfl ?_
          refine z_bipush (pc2 := 13) rfl rfl (by decide) ?_
          refine z_iload_n (pc2 := 14) rfl rfl rfl ?_
          refine z_isub (pc2 := 15) rfl rfl ?_
          refine z_putI (pc2 := 18) rfl rfl rfl rfl rfl rfl t56 (by omega) True.intro ?_
          refine z_aload_n (pc2 := 19) rfl rfl rfl ?_
          refine z_getI (pc2 := 22) 0 rfl rfl rfl rfl rfl t56 ?_
          intro v17 e17 r17 k17
          clear e17
          clear k17
          refine z_iret rfl rfl ?_
          show zB _ _ _ _ _ _ [_] _ _
          refine z_iret rfl rfl ?_
          exact hK _ _ _ (by repeat (first | exact zFr_rf _ | assumption | refine zFr_a ?_ (by decide) | refine zFr_f ?_ (by decide) | refine zFr_n ?_ (by omega) | refine zFr_h ?_ (by omega) | refine zFr_tok ?_ (by omega)))
        ·
          refine z_iload_n (pc2 := 71) rfl rfl rfl ?_
          refine z_i2l (pc2 := 72) rfl rfl (by omega) ?_
          refine z_lconst 0 (pc2 := 73) rfl rfl rfl ?_
          refine z_iload_n (pc2 := 74) rfl rfl rfl ?_
          refine z_iconst (pc2 := 75) rfl rfl ?_
          refine z_isub (pc2 := 76) rfl rfl ?_
          refine z_i2l (pc2 := 77) rfl rfl (by omega) ?_
          refine z_callS (y2 := 157) (as := [_, _, _]) (rest := []) (pc2 := 80) rfl rfl rfl rfl ?_
          refine m_in (by omega) (by omega) (by omega) (fun e18 e18a e18b e18c => ?_)
          show zB _ _ _ _ _ _ [_] _ _
          refine z_if_ne (t := 97) (pc2 := 83) rfl rfl rfl (by omega) (fun c19 => ?_) (fun c19 => ?_)
          ·
            refine z_aload_n (pc2 := 98) rfl rfl rfl ?_
            refine z_callV (y2 := 167) (as := []) (rest := []) (pc2 := 101) rfl rfl rfl rfl t56 rfl ?_
            refine m_keep hT (fun Iw20 Gw20 fw20 ow20 => ?_)
            replace fw20 := zFr_tr (I := I) (by repeat (first | exact zFr_rf _ | assumption | refine zFr_a ?_ (by decide) | refine zFr_f ?_ (by decide) | refine zFr_n ?_ (by omega) | refine zFr_h ?_ (by omega) | refine zFr_tok ?_ (by omega))) fw20
            show zB _ _ _ _ _ _ [] _ _
            refine z_aload_n (pc2 := 102) rfl rfl rfl ?_
            refine z_getP (pc2 := 105) rfl rfl rfl rfl t56 ?_
            intro p21 p21e p21k; replace p21k : p21 = some 57 := p21k; clear p21e; subst p21k
            refine z_aload_n (pc2 := 106) rfl rfl rfl ?_
            refine z_callV (y2 := 162) (as := []) (rest := [_]) (pc2 := 109) rfl rfl rfl rfl t56 rfl ?_
            refine z_inl ?_
            refine z_lv (lv2 := [(0, _)]) ⟨rfl, trivial⟩ ?_
            refine z_ldc (56100) (pc2 := 2) rfl rfl rfl ?_
            refine z_aload_n (pc2 := 3) rfl rfl rfl ?_
            refine z_getI (pc2 := 6) 0 rfl rfl rfl rfl rfl t56 ?_
            intro v22 e22 r22 k22
            clear e22
            replace k22 : (0 : Int) ≤ v22 ∧ v22 ≤ 1 := k22; clear r22
            refine z_imul (pc2 := 7) rfl rfl ?_
            refine z_iret rfl rfl ?_
            show zB _ _ _ _ _ _ [_, _] _ _
            refine z_sipush (pc2 := 112) rfl rfl (by decide) ?_
            refine z_iadd (pc2 := 113) rfl rfl ?_
            refine z_iload_n (pc2 := 114) rfl rfl rfl ?_
            refine z_iadd (pc2 := 115) rfl rfl ?_
            refine z_aload_n (pc2 := 116) rfl rfl rfl ?_
            refine z_getP (pc2 := 119) rfl rfl rfl rfl t56 ?_
            intro p23 p23e p23k; replace p23k : p23 = some 57 := p23k; clear p23e; subst p23k
            refine z_aload_n (pc2 := 120) rfl rfl rfl ?_
            refine z_callV (y2 := 162) (as := []) (rest := [_, _, _]) (pc2 := 123) rfl rfl rfl rfl t56 rfl ?_
            refine z_inl ?_
            refine z_lv (lv2 := [(0, _)]) ⟨rfl, trivial⟩ ?_
            refine z_ldc (56100) (pc2 := 2) rfl rfl rfl ?_
            refine z_aload_n (pc2 := 3) rfl rfl rfl ?_
            refine z_getI (pc2 := 6) 0 rfl rfl rfl rfl rfl t56 ?_
            intro v24 e24 r24 k24
            clear e24
            replace k24 : (0 : Int) ≤ v24 ∧ v24 ≤ 1 := k24; clear r24
            refine z_imul (pc2 := 7) rfl rfl ?_
            refine z_iret rfl rfl ?_
            show zB _ _ _ _ _ _ [_, _, _, _] _ _
            refine z_sipush (pc2 := 126) rfl rfl (by decide) ?_
            refine z_iadd (pc2 := 127) rfl rfl ?_
            refine z_iload_n (pc2 := 128) rfl rfl rfl ?_
            refine z_iadd (pc2 := 129) rfl rfl ?_
            refine z_iald (pc2 := 130) rfl rfl t57 (by omega) (by omega) (by decide) ?_
            intro v25 e25 r25 k25
            clear e25
            replace k25 := ok_stick k25 (by omega)
            refine z_iast (pc2 := 131) rfl rfl t57 (by omega) (by omega) (by decide) (by omega) (st_stick (by omega) (by first | assumption | exact zGd_0 | (unfold zGd; refine ⟨⟨?_, ?_⟩, ⟨?_, ?_⟩, ?_⟩ <;> omega))) ?_
            refine z_aload_n (pc2 := 132) rfl rfl rfl ?_
            refine z_getP (pc2 := 135) rfl rfl rfl rfl t56 ?_
            intro p26 p26e p26k; replace p26k : p26 = some 57 := p26k; clear p26e; subst p26k
            refine z_aload_n (pc2 := 136) rfl rfl rfl ?_
            refine z_callV (y2 := 162) (as := []) (rest := [_]) (pc2 := 139) rfl rfl rfl rfl t56 rfl ?_
            refine z_inl ?_
            refine z_lv (lv2 := [(0, _)]) ⟨rfl, trivial⟩ ?_
            refine z_ldc (56100) (pc2 := 2) rfl rfl rfl ?_
            refine z_aload_n (pc2 := 3) rfl rfl rfl ?_
            refine z_getI (pc2 := 6) 0 rfl rfl rfl rfl rfl t56 ?_
            intro v27 e27 r27 k27
            clear e27
            replace k27 : (0 : Int) ≤ v27 ∧ v27 ≤ 1 := k27; clear r27
            refine z_imul (pc2 := 7) rfl rfl ?_
            refine z_iret rfl rfl ?_
            show zB _ _ _ _ _ _ [_, _] _ _
            refine z_sipush (pc2 := 142) rfl rfl (by decide) ?_
            refine z_iadd (pc2 := 143) rfl rfl ?_
            refine z_iload_n (pc2 := 144) rfl rfl rfl ?_
            refine z_iadd (pc2 := 145) rfl rfl ?_
            refine z_iconst (pc2 := 146) rfl rfl ?_
            refine z_iast (pc2 := 147) rfl rfl t57 (by omega) (by omega) (by decide) (by omega) (st_stick (by omega) (by first | assumption | exact zGd_0 | (unfold zGd; refine ⟨⟨?_, ?_⟩, ⟨?_, ?_⟩, ?_⟩ <;> omega))) ?_
            refine z_aload_n (pc2 := 148) rfl rfl rfl ?_
            refine z_iconst (pc2 := 149) rfl rfl ?_
            refine z_callV (y2 := 158) (as := [_]) (rest := []) (pc2 := 152) rfl rfl rfl rfl t56 rfl ?_
            refine z_inl ?_
            refine z_lv (lv2 := [(0, _), (1, _)]) ⟨rfl, rfl, trivial⟩ ?_
            refine z_aload_n (pc2 := 1) rfl rfl rfl ?_
            refine z_iconst (pc2 := 2) rfl rfl ?_
            refine z_putI (pc2 := 5) rfl rfl rfl rfl rfl rfl t56 (by omega) True.intro ?_
            refine z_iload_n (pc2 := 6) rfl rfl rfl ?_
            refine z_iret rfl rfl ?_
            show zB _ _ _ _ _ _ [_] _ _
            refine z_iret rfl rfl ?_
            exact hK _ _ _ (by repeat (first | exact zFr_rf _ | assumption | refine zFr_a ?_ (by decide) | refine zFr_f ?_ (by decide) | refine zFr_n ?_ (by omega) | refine zFr_h ?_ (by omega) | refine zFr_tok ?_ (by omega)))
          ·
            refine z_aload_n (pc2 := 84) rfl rfl rfl ?_
            refine z_iload_n (pc2 := 85) rfl rfl rfl ?_
            refine z_if_ge (t := 92) (pc2 := 88) rfl rfl rfl (by omega) (fun c28 => ?_) (fun c28 => by exfalso; omega)
            refine z_iconst (pc2 := 93) rfl rfl ?_
            refine z_callV (y2 := 160) (as := [_]) (rest := []) (pc2 := 96) rfl rfl rfl rfl t56 rfl ?_
            refine z_inl ?_
            refine z_lv (lv2 := [(0, _), (1, _)]) ⟨rfl, rfl, trivial⟩ ?_
            refine z_aload_n (pc2 := 1) rfl rfl rfl ?_
            refine z_dup (pc2 := 2) rfl rfl rfl ?_
            refine z_getI (pc2 := 5) 0 rfl rfl rfl rfl rfl t56 ?_
            intro v29 e29 r29 k29
            clear e29
            clear k29
            refine z_iconst (pc2 := 6) rfl rfl ?_
            refine z_iadd (pc2 := 7) rfl rfl ?_
            refine z_putI_any (pc2 := 10) rfl rfl rfl rfl rfl rfl t56 (fun _ _ => True.intro) (fun u30 u30r => ?_); clear u30r
            refine z_aload_n (pc2 := 11) rfl rfl rfl ?_
            refine z_bipush (pc2 := 13) rfl rfl (by decide) ?_
            refine z_iload_n (pc2 := 14) rfl rfl rfl ?_
            refine z_isub (pc2 := 15) rfl rfl ?_
            refine z_putI (pc2 := 18) rfl rfl rfl rfl rfl rfl t56 (by omega) True.intro ?_
            refine z_aload_n (pc2 := 19) rfl rfl rfl ?_
            refine z_getI (pc2 := 22) 0 rfl rfl rfl rfl rfl t56 ?_
            intro v31 e31 r31 k31
            clear e31
            clear k31
            refine z_iret rfl rfl ?_
            show zB _ _ _ _ _ _ [_] _ _
            refine z_iret rfl rfl ?_
            exact hK _ _ _ (by repeat (first | exact zFr_rf _ | assumption | refine zFr_a ?_ (by decide) | refine zFr_f ?_ (by decide) | refine zFr_n ?_ (by omega) | refine zFr_h ?_ (by omega) | refine zFr_tok ?_ (by omega)))
      ·
        refine z_iconst (pc2 := 11) rfl rfl ?_
        refine z_goto (pc2 := 15) rfl rfl ?_
        refine z_zret rfl rfl (by omega) ?_
        show zB _ _ _ _ _ _ [_] _ _
        refine z_if_eq (t := 52) (pc2 := 45) rfl rfl rfl (by omega) (fun c32 => by exfalso; omega) (fun c32 => ?_)
        refine z_aload_n (pc2 := 46) rfl rfl rfl ?_
        refine z_bipush (pc2 := 48) rfl rfl (by decide) ?_
        refine z_callV (y2 := 159) (as := [_]) (rest := []) (pc2 := 51) rfl rfl rfl rfl t56 rfl ?_
        refine z_inl ?_
        refine z_lv (lv2 := [(0, _), (1, _)]) ⟨rfl, rfl, trivial⟩ ?_
        refine z_aload_n (pc2 := 1) rfl rfl rfl ?_
        refine z_iload_n (pc2 := 2) rfl rfl rfl ?_
        refine z_putI (pc2 := 5) rfl rfl rfl rfl rfl rfl t56 (by omega) True.intro ?_
        refine z_iload_n (pc2 := 6) rfl rfl rfl ?_
        refine z_iret rfl rfl ?_
        show zB _ _ _ _ _ _ [_] _ _
        refine z_iret rfl rfl ?_
        exact hK _ _ _ (by repeat (first | exact zFr_rf _ | assumption | refine zFr_a ?_ (by decide) | refine zFr_f ?_ (by decide) | refine zFr_n ?_ (by omega) | refine zFr_h ?_ (by omega) | refine zFr_tok ?_ (by omega)))
    ·
      refine z_aload_n (pc2 := 32) rfl rfl rfl ?_
      refine z_bipush (pc2 := 34) rfl rfl (by decide) ?_
      refine z_callV (y2 := 159) (as := [_]) (rest := []) (pc2 := 37) rfl rfl rfl rfl t56 rfl ?_
      refine z_inl ?_
      refine z_lv (lv2 := [(0, _), (1, _)]) ⟨rfl, rfl, trivial⟩ ?_
      refine z_aload_n (pc2 := 1) rfl rfl rfl ?_
      refine z_iload_n (pc2 := 2) rfl rfl rfl ?_
      refine z_putI (pc2 := 5) rfl rfl rfl rfl rfl rfl t56 (by omega) True.intro ?_
      refine z_iload_n (pc2 := 6) rfl rfl rfl ?_
      refine z_iret rfl rfl ?_
      show zB _ _ _ _ _ _ [_] _ _
      refine z_iret rfl rfl ?_
      exact hK _ _ _ (by repeat (first | exact zFr_rf _ | assumption | refine zFr_a ?_ (by decide) | refine zFr_f ?_ (by decide) | refine zFr_n ?_ (by omega) | refine zFr_h ?_ (by omega) | refine zFr_tok ?_ (by omega)))
  ·
    refine z_aload_n (pc2 := 8) rfl rfl rfl ?_
    refine z_iconst (pc2 := 9) rfl rfl ?_
    refine z_callV (y2 := 159) (as := [_]) (rest := []) (pc2 := 12) rfl rfl rfl rfl t56 rfl ?_
    refine z_inl ?_
    refine z_lv (lv2 := [(0, _), (1, _)]) ⟨rfl, rfl, trivial⟩ ?_
    refine z_aload_n (pc2 := 1) rfl rfl rfl ?_
    refine z_iload_n (pc2 := 2) rfl rfl rfl ?_
    refine z_putI (pc2 := 5) rfl rfl rfl rfl rfl rfl t56 (by omega) True.intro ?_
    refine z_iload_n (pc2 := 6) rfl rfl rfl ?_
    refine z_iret rfl rfl ?_
    show zB _ _ _ _ _ _ [_] _ _
    refine z_iret rfl rfl ?_
    exact hK _ _ _ (by repeat (first | exact zFr_rf _ | assumption | refine zFr_a ?_ (by decide) | refine zFr_f ?_ (by decide) | refine zFr_n ?_ (by omega) | refine zFr_h ?_ (by omega) | refine zFr_tok ?_ (by omega)))
