/-! the reference: the stick -/
set_option maxHeartbeats 8000000 in
theorem m_take {L : Nat} {xs : Nat → Int32} {n sl : Nat} {T : Nat → zT} {I : Nat → Nat → Int} {P : Nat → Nat → Option Nat} {G : Nat → Nat → Int} {K : List zV → zH → Prop} {a b c d : Int} (hT : ∀ a, 56 ≤ a → a ≤ 90 → T a = zFix a) (ha : zR a) (hb : zR b) (hc : zR c) (hd : zR d) (hK : ∀ e I2 G2, zFr I I2 → K [.inl e] (n, sl, T, I2, P, G2)) : zX zMd L xs 212 [.inr (.inl (some 56)), .inl a, .inl b, .inl c, .inl d] (n, sl, T, I, P, G) K := by
  have t56 : T 56 = (1, 12, [1]) := hT 56 (by decide) (by decide)
  have t57 : T 57 = (2, 0, [112200, 1]) := hT 57 (by decide) (by decide)
  refine z_inl ?_
  refine z_lv (lv2 := [(0, _), (1, _), (2, _), (3, _), (4, _)]) ⟨rfl, rfl, rfl, rfl, rfl, trivial⟩ ?_
  refine z_iload_n (pc2 := 1) rfl rfl rfl ?_
  refine z_callS (y2 := 211) (as := [_]) (rest := []) (pc2 := 4) rfl rfl rfl rfl ?_
  refine z_inl ?_
  refine z_lv (lv2 := [(0, _)]) ⟨rfl, trivial⟩ ?_
  refine z_iload_n (pc2 := 1) rfl rfl rfl ?_
  refine z_i2l (pc2 := 2) rfl rfl (by omega) ?_
  refine z_lconst 0 (pc2 := 3) rfl rfl rfl ?_
  refine z_ldc2 (9) (pc2 := 6) rfl rfl rfl ?_
  refine z_callS (y2 := 157) (as := [_, _, _]) (rest := []) (pc2 := 9) rfl rfl rfl rfl ?_
  refine m_in (by omega) (by omega) (by omega) (fun e1 e1a e1b e1c => ?_)
  show zB _ _ _ _ _ _ [_] _ _
  refine z_zret rfl rfl (by omega) ?_
  show zB _ _ _ _ _ _ [_] _ _
  refine z_if_eq (t := 26) (pc2 := 7) rfl rfl rfl (by omega) (fun c2 => ?_) (fun c2 => ?_)
  ·
    refine z_aload_n (pc2 := 27) rfl rfl rfl ?_
    refine z_iconst (pc2 := 28) rfl rfl ?_
    refine z_callV (y2 := 159) (as := [_]) (rest := []) (pc2 := 31) rfl rfl rfl rfl t56 rfl ?_
    refine z_inl ?_
    refine z_lv (lv2 := [(0, _), (1, _)]) ⟨rfl, rfl, trivial⟩ ?_
    refine z_aload_n (pc2 := 1) rfl rfl rfl ?_
    refine z_iload_n (pc2 := 2) rfl rfl rfl ?_
    refine z_putI (pc2 := 5) rfl rfl rfl rfl rfl rfl t56 (by omega) True.intro ?_
    refine z_iload_n (pc2 := 6) rfl rfl rfl ?_
    refine z_iret rfl rfl ?_
    show zB _ _ _ _ _ _ [_] _ _
    refine z_iret rfl rfl ?_
    exact hK _ _ _ (by repeat (first | exact zFr_rf _ | assumption | refine zFr_a ?_ (by decide) | refine zFr_f ?_ (by decide) | refine zFr_n ?_ (by omega) | refine zFr_h ?_ (by omega) | refine zFr_tok ?_ (by omega)))
  ·
    refine z_iload_n (pc2 := 8) rfl rfl rfl ?_
    refine z_callS (y2 := 164) (as := [_]) (rest := []) (pc2 := 11) rfl rfl rfl rfl ?_
    refine z_inl ?_
    refine z_lv (lv2 := [(0, _)]) ⟨rfl, trivial⟩ ?_
    refine z_iload_n (pc2 := 1) rfl rfl rfl ?_
    refine z_i2l (pc2 := 2) rfl rfl (by omega) ?_
    refine z_lconst 0 (pc2 := 3) rfl rfl rfl ?_
    refine z_ldc2 (3) (pc2 := 6) rfl rfl rfl ?_
    refine z_callS (y2 := 157) (as := [_, _, _]) (rest := []) (pc2 := 9) rfl rfl rfl rfl ?_
    refine m_in (by omega) (by omega) (by omega) (fun e3 e3a e3b e3c => ?_)
    show zB _ _ _ _ _ _ [_] _ _
    refine z_zret rfl rfl (by omega) ?_
    show zB _ _ _ _ _ _ [_] _ _
    refine z_if_eq (t := 26) (pc2 := 14) rfl rfl rfl (by omega) (fun c4 => ?_) (fun c4 => ?_)
    ·
      refine z_aload_n (pc2 := 27) rfl rfl rfl ?_
      refine z_iconst (pc2 := 28) rfl rfl ?_
      refine z_callV (y2 := 159) (as := [_]) (rest := []) (pc2 := 31) rfl rfl rfl rfl t56 rfl ?_
      refine z_inl ?_
      refine z_lv (lv2 := [(0, _), (1, _)]) ⟨rfl, rfl, trivial⟩ ?_
      refine z_aload_n (pc2 := 1) rfl rfl rfl ?_
      refine z_iload_n (pc2 := 2) rfl rfl rfl ?_
      refine z_putI (pc2 := 5) rfl rfl rfl rfl rfl rfl t56 (by omega) True.intro ?_
      refine z_iload_n (pc2 := 6) rfl rfl rfl ?_
      refine z_iret rfl rfl ?_
      show zB _ _ _ _ _ _ [_] _ _
      refine z_iret rfl rfl ?_
      exact hK _ _ _ (by repeat (first | exact zFr_rf _ | assumption | refine zFr_a ?_ (by decide) | refine zFr_f ?_ (by decide) | refine zFr_n ?_ (by omega) | refine zFr_h ?_ (by omega) | refine zFr_tok ?_ (by omega)))
    ·
      refine z_iload_n (pc2 := 15) rfl rfl rfl ?_
      refine z_i2l (pc2 := 16) rfl rfl (by omega) ?_
      refine z_lconst 0 (pc2 := 17) rfl rfl rfl ?_
      refine z_ldc2 (4) (pc2 := 20) rfl rfl rfl ?_
      refine z_callS (y2 := 157) (as := [_, _, _]) (rest := []) (pc2 := 23) rfl rfl rfl rfl ?_
      refine m_in (by omega) (by omega) (by omega) (fun e5 e5a e5b e5c => ?_)
      show zB _ _ _ _ _ _ [_] _ _
      refine z_if_ne (t := 32) (pc2 := 26) rfl rfl rfl (by omega) (fun c6 => ?_) (fun c6 => ?_)
      ·
        refine z_aload_n (pc2 := 33) rfl rfl rfl ?_
        refine z_getP (pc2 := 36) rfl rfl rfl rfl t56 ?_
        intro p7 p7e p7k; replace p7k : p7 = some 57 := p7k; clear p7e; subst p7k
        refine z_aload_n (pc2 := 37) rfl rfl rfl ?_
        refine z_callV (y2 := 162) (as := []) (rest := [_]) (pc2 := 40) rfl rfl rfl rfl t56 rfl ?_
        refine z_inl ?_
        refine z_lv (lv2 := [(0, _)]) ⟨rfl, trivial⟩ ?_
        refine z_ldc (56100) (pc2 := 2) rfl rfl rfl ?_
        refine z_aload_n (pc2 := 3) rfl rfl rfl ?_
        refine z_getI (pc2 := 6) 0 rfl rfl rfl rfl rfl t56 ?_
        intro v8 e8 r8 k8
        clear e8
        replace k8 : (0 : Int) ≤ v8 ∧ v8 ≤ 1 := k8; clear r8
        refine z_imul (pc2 := 7) rfl rfl ?_
        refine z_iret rfl rfl ?_
        show zB _ _ _ _ _ _ [_, _] _ _
        refine z_sipush (pc2 := 43) rfl rfl (by decide) ?_
        refine z_iadd (pc2 := 44) rfl rfl ?_
        refine z_iload_n (pc2 := 45) rfl rfl rfl ?_
        refine z_iadd (pc2 := 46) rfl rfl ?_
        refine z_iald (pc2 := 47) rfl rfl t57 (by omega) (by omega) (by decide) ?_
        intro v9 e9 r9 k9
        clear e9
        replace k9 := ok_stick k9 (by omega)
        refine z_if_eq (t := 57) (pc2 := 50) rfl rfl rfl (by omega) (fun c10 => ?_) (fun c10 => ?_)
        ·
          refine z_aload_n (pc2 := 58) rfl rfl rfl ?_
          refine z_callV (y2 := 161) (as := []) (rest := []) (pc2 := 61) rfl rfl rfl rfl t56 rfl ?_
          refine z_inl ?_
          refine z_lv (lv2 := [(0, _)]) ⟨rfl, trivial⟩ ?_
          refine z_aload_n (pc2 := 1) rfl rfl rfl ?_
          refine z_getI (pc2 := 4) 0 rfl rfl rfl rfl rfl t56 ?_
          intro v11 e11 r11 k11
          clear e11
          clear k11
          refine z_sipush (pc2 := 7) rfl rfl (by decide) ?_
          refine z_icmp_lt (t := 14) (pc2 := 10) rfl rfl rfl (by omega) (by omega) (fun c12 => ?_) (fun c12 => ?_)
          ·
            refine z_iconst (pc2 := 15) rfl rfl ?_
            refine z_zret rfl rfl (by omega) ?_
            show zB _ _ _ _ _ _ [_] _ _
            refine z_if_eq (t := 71) (pc2 := 64) rfl rfl rfl (by omega) (fun c13 => ?_) (fun c13 => by exfalso; omega)
            refine z_aload_n (pc2 := 72) rfl rfl rfl ?_
            refine z_iload_n (pc2 := 73) rfl rfl rfl ?_
            refine z_iload_n (pc2 := 74) rfl rfl rfl ?_
            refine z_iload (pc2 := 76) rfl rfl rfl ?_
            refine z_callV (y2 := 205) (as := [_, _, _]) (rest := []) (pc2 := 79) rfl rfl rfl rfl t56 rfl ?_
            refine m_lacksBox hT (by omega) (by omega) (by omega) (fun w14 w14r w14h => ?_)
            show zB _ _ _ _ _ _ [_] _ _
            refine z_istore (lv2 := [(5, _), (0, _), (1, _), (2, _), (3, _), (4, _)]) (pc2 := 81) rfl rfl rfl rfl ?_
            refine z_iload (pc2 := 83) rfl rfl rfl ?_
            refine z_if_eq (t := 93) (pc2 := 86) rfl rfl rfl (by omega) (fun c15 => ?_) (fun c15 => ?_)
            ·
              refine z_aload_n (pc2 := 94) rfl rfl rfl ?_
              refine z_callV (y2 := 162) (as := []) (rest := []) (pc2 := 97) rfl rfl rfl rfl t56 rfl ?_
              refine z_inl ?_
              refine z_lv (lv2 := [(0, _)]) ⟨rfl, trivial⟩ ?_
              refine z_ldc (56100) (pc2 := 2) rfl rfl rfl ?_
              refine z_aload_n (pc2 := 3) rfl rfl rfl ?_
              refine z_getI (pc2 := 6) 0 rfl rfl rfl rfl rfl t56 ?_
              intro v16 e16 r16 k16
              clear e16
              replace k16 : (0 : Int) ≤ v16 ∧ v16 ≤ 1 := k16; clear r16
              refine z_imul (pc2 := 7) rfl rfl ?_
              refine z_iret rfl rfl ?_
              show zB _ _ _ _ _ _ [_] _ _
              refine z_iload_n (pc2 := 98) rfl rfl rfl ?_
              refine z_iload_n (pc2 := 99) rfl rfl rfl ?_
              refine z_iload (pc2 := 101) rfl rfl rfl ?_
              refine z_callS (y2 := 182) (as := [_, _, _]) (rest := [_]) (pc2 := 104) rfl rfl rfl rfl ?_
              refine m_boxOf (by omega) (by omega) (by omega) (by omega) (by omega) (by omega) (fun w17 w17h => ?_)
              have w17b : 0 ≤ w17 ∧ w17 ≤ 143 := by omega
              show zB _ _ _ _ _ _ [_, _] _ _
              refine z_iadd (pc2 := 105) rfl rfl ?_
              refine z_istore (lv2 := [(6, _), (5, _), (0, _), (1, _), (2, _), (3, _), (4, _)]) (pc2 := 107) rfl rfl rfl rfl ?_
              refine z_aload_n (pc2 := 108) rfl rfl rfl ?_
              refine z_getP (pc2 := 111) rfl rfl rfl rfl t56 ?_
              intro p18 p18e p18k; replace p18k : p18 = some 57 := p18k; clear p18e; subst p18k
              refine z_iload (pc2 := 113) rfl rfl rfl ?_
              refine z_iald (pc2 := 114) rfl rfl t57 (by omega) (by omega) (by decide) ?_
              intro v19 e19 r19 k19
              clear e19
              clear k19
              refine z_if_ne (t := 124) (pc2 := 117) rfl rfl rfl (by omega) (fun c20 => ?_) (fun c20 => ?_)
              ·
                refine z_aload_n (pc2 := 125) rfl rfl rfl ?_
                refine z_callV (y2 := 167) (as := []) (rest := []) (pc2 := 128) rfl rfl rfl rfl t56 rfl ?_
                refine m_keep hT (fun Iw21 Gw21 fw21 ow21 => ?_)
                replace fw21 := zFr_tr (I := I) (by repeat (first | exact zFr_rf _ | assumption | refine zFr_a ?_ (by decide) | refine zFr_f ?_ (by decide) | refine zFr_n ?_ (by omega) | refine zFr_h ?_ (by omega) | refine zFr_tok ?_ (by omega))) fw21
                show zB _ _ _ _ _ _ [] _ _
                refine z_aload_n (pc2 := 129) rfl rfl rfl ?_
                refine z_getP (pc2 := 132) rfl rfl rfl rfl t56 ?_
                intro p22 p22e p22k; replace p22k : p22 = some 57 := p22k; clear p22e; subst p22k
                refine z_iload (pc2 := 134) rfl rfl rfl ?_
                refine z_dup2 (pc2 := 135) rfl rfl rfl rfl ?_
                refine z_iald (pc2 := 136) rfl rfl t57 (by omega) (by omega) (by decide) ?_
                intro v23 e23 r23 k23
                clear e23
                clear k23
                refine z_iconst (pc2 := 137) rfl rfl ?_
                refine z_isub (pc2 := 138) rfl rfl ?_
                refine z_iast_any (pc2 := 139) rfl rfl t57 (by omega) (by omega) (by decide) (fun _ _ => st_box (by omega)) (fun u24 u24r => ?_); clear u24r
                refine z_aload_n (pc2 := 140) rfl rfl rfl ?_
                refine z_getP (pc2 := 143) rfl rfl rfl rfl t56 ?_
                intro p25 p25e p25k; replace p25k : p25 = some 57 := p25k; clear p25e; subst p25k
                refine z_aload_n (pc2 := 144) rfl rfl rfl ?_
                refine z_callV (y2 := 162) (as := []) (rest := [_]) (pc2 := 147) rfl rfl rfl rfl t56 rfl ?_
                refine z_inl ?_
                refine z_lv (lv2 := [(0, _)]) ⟨rfl, trivial⟩ ?_
                refine z_ldc (56100) (pc2 := 2) rfl rfl rfl ?_
                refine z_aload_n (pc2 := 3) rfl rfl rfl ?_
                refine z_getI (pc2 := 6) 0 rfl rfl rfl rfl rfl t56 ?_
                intro v26 e26 r26 k26
                clear e26
                replace k26 : (0 : Int) ≤ v26 ∧ v26 ≤ 1 := k26; clear r26
                refine z_imul (pc2 := 7) rfl rfl ?_
                refine z_iret rfl rfl ?_
                show zB _ _ _ _ _ _ [_, _] _ _
                refine z_sipush (pc2 := 150) rfl rfl (by decide) ?_
                refine z_iadd (pc2 := 151) rfl rfl ?_
                refine z_iload_n (pc2 := 152) rfl rfl rfl ?_
                refine z_iadd (pc2 := 153) rfl rfl ?_
                refine z_iload_n (pc2 := 154) rfl rfl rfl ?_
                refine z_iload_n (pc2 := 155) rfl rfl rfl ?_
                refine z_iload_n (pc2 := 156) rfl rfl rfl ?_
                refine z_iconst (pc2 := 157) rfl rfl ?_
                refine z_icmp_eq (t := 165) (pc2 := 160) rfl rfl rfl (by omega) (by omega) (fun c27 => ?_) (fun c27 => ?_)
                ·
                  refine z_iconst (pc2 := 166) rfl rfl ?_
                  refine z_goto (pc2 := 171) rfl rfl ?_
                  refine z_callS (y2 := 170) (as := [_, _, _]) (rest := [_, _]) (pc2 := 174) rfl rfl rfl rfl ?_
                  refine m_sort (by omega) (by omega) (by omega) (by omega) (by omega) (fun w28 w28r w28g => ?_)
                  show zB _ _ _ _ _ _ [_, _, _] _ _
                  refine z_iast (pc2 := 175) rfl rfl t57 (by omega) (by omega) (by decide) (by omega) (st_stick (by omega) (by first | assumption | exact zGd_0 | (unfold zGd; refine ⟨⟨?_, ?_⟩, ⟨?_, ?_⟩, ?_⟩ <;> omega))) ?_
                  refine z_aload_n (pc2 := 176) rfl rfl rfl ?_
                  refine z_iconst (pc2 := 177) rfl rfl ?_
                  refine z_callV (y2 := 158) (as := [_]) (rest := []) (pc2 := 180) rfl rfl rfl rfl t56 rfl ?_
                  refine z_inl ?_
                  refine z_lv (lv2 := [(0, _), (1, _)]) ⟨rfl, rfl, trivial⟩ ?_
                  refine z_aload_n (pc2 := 1) rfl rfl rfl ?_
                  refine z_iconst (pc2 := 2) rfl rfl ?_
                  refine z_putI (pc2 := 5) rfl rfl rfl rfl rfl rfl t56 (by omega) True.intro ?_
                  refine z_iload_n (pc2 := 6) rfl rfl rfl ?_
                  refine z_iret rfl rfl ?_
                  show zB _ _ _ _ _ _ [_] _ _
                  refine z_iret rfl rfl ?_
                  exact hK _ _ _ (by repeat (first | exact zFr_rf _ | assumption | refine zFr_a ?_ (by decide) | refine zFr_f ?_ (by decide) | refine zFr_n ?_ (by omega) | refine zFr_h ?_ (by omega) | refine zFr_tok ?_ (by omega)))
                ·
                  refine z_iload_n (pc2 := 161) rfl rfl rfl ?_
                  refine z_iconst (pc2 := 162) rfl rfl ?_
                  refine z_icmp_ne (t := 169) (pc2 := 165) rfl rfl rfl (by omega) (by omega) (fun c29 => ?_) (fun c29 => ?_)
                  ·
                    refine z_iload (pc2 := 171) rfl rfl rfl ?_
                    refine z_callS (y2 := 170) (as := [_, _, _]) (rest := [_, _]) (pc2 := 174) rfl rfl rfl rfl ?_
                    refine m_sort (by omega) (by omega) (by omega) (by omega) (by omega) (fun w30 w30r w30g => ?_)
                    show zB _ _ _ _ _ _ [_, _, _] _ _
                    refine z_iast (pc2 := 175) rfl rfl t57 (by omega) (by omega) (by decide) (by omega) (st_stick (by omega) (by first | assumption | exact zGd_0 | (unfold zGd; refine ⟨⟨?_, ?_⟩, ⟨?_, ?_⟩, ?_⟩ <;> omega))) ?_
                    refine z_aload_n (pc2 := 176) rfl rfl rfl ?_
                    refine z_iconst (pc2 := 177) rfl rfl ?_
                    refine z_callV (y2 := 158) (as := [_]) (rest := []) (pc2 := 180) rfl rfl rfl rfl t56 rfl ?_
                    refine z_inl ?_
                    refine z_lv (lv2 := [(0, _), (1, _)]) ⟨rfl, rfl, trivial⟩ ?_
                    refine z_aload_n (pc2 := 1) rfl rfl rfl ?_
                    refine z_iconst (pc2 := 2) rfl rfl ?_
                    refine z_putI (pc2 := 5) rfl rfl rfl rfl rfl rfl t56 (by omega) True.intro ?_
                    refine z_iload_n (pc2 := 6) rfl rfl rfl ?_
                    refine z_iret rfl rfl ?_
                    show zB _ _ _ _ _ _ [_] _ _
                    refine z_iret rfl rfl ?_
                    exact hK _ _ _ (by repeat (first | exact zFr_rf _ | assumption | refine zFr_a ?_ (by decide) | refine zFr_f ?_ (by decide) | refine zFr_n ?_ (by omega) | refine zFr_h ?_ (by omega) | refine zFr_tok ?_ (by omega)))
                  ·
                    refine z_iconst (pc2 := 166) rfl rfl ?_
                    refine z_goto (pc2 := 171) rfl rfl ?_
                    refine z_callS (y2 := 170) (as := [_, _, _]) (rest := [_, _]) (pc2 := 174) rfl rfl rfl rfl ?_
                    refine m_sort (by omega) (by omega) (by omega) (by omega) (by omega) (fun w31 w31r w31g => ?_)
                    show zB _ _ _ _ _ _ [_, _, _] _ _
                    refine z_iast (pc2 := 175) rfl rfl t57 (by omega) (by omega) (by decide) (by omega) (st_stick (by omega) (by first | assumption | exact zGd_0 | (unfold zGd; refine ⟨⟨?_, ?_⟩, ⟨?_, ?_⟩, ?_⟩ <;> omega))) ?_
                    refine z_aload_n (pc2 := 176) rfl rfl rfl ?_
                    refine z_iconst (pc2 := 177) rfl rfl ?_
                    refine z_callV (y2 := 158) (as := [_]) (rest := []) (pc2 := 180) rfl rfl rfl rfl t56 rfl ?_
                    refine z_inl ?_
                    refine z_lv (lv2 := [(0, _), (1, _)]) ⟨rfl, rfl, trivial⟩ ?_
                    refine z_aload_n (pc2 := 1) rfl rfl rfl ?_
                    refine z_iconst (pc2 := 2) rfl rfl ?_
                    refine z_putI (pc2 := 5) rfl rfl rfl rfl rfl rfl t56 (by omega) True.intro ?_
                    refine z_iload_n (pc2 := 6) rfl rfl rfl ?_
                    refine z_iret rfl rfl ?_
                    show zB _ _ _ _ _ _ [_] _ _
                    refine z_iret rfl rfl ?_
                    exact hK _ _ _ (by repeat (first | exact zFr_rf _ | assumption | refine zFr_a ?_ (by decide) | refine zFr_f ?_ (by decide) | refine zFr_n ?_ (by omega) | refine zFr_h ?_ (by omega) | refine zFr_tok ?_ (by omega)))
              ·
                refine z_aload_n (pc2 := 118) rfl rfl rfl ?_
                refine z_bipush (pc2 := 120) rfl rfl (by decide) ?_
                refine z_callV (y2 := 160) (as := [_]) (rest := []) (pc2 := 123) rfl rfl rfl rfl t56 rfl ?_
                refine z_inl ?_
                refine z_lv (lv2 := [(0, _), (1, _)]) ⟨rfl, rfl, trivial⟩ ?_
                refine z_aload_n (pc2 := 1) rfl rfl rfl ?_
                refine z_dup (pc2 := 2) rfl rfl rfl ?_
                refine z_getI (pc2 := 5) 0 rfl rfl rfl rfl rfl t56 ?_
                intro v32 e32 r32 k32
                clear e32
                clear k32
                refine z_iconst (pc2 := 6) rfl rfl ?_
                refine z_iadd (pc2 := 7) rfl rfl ?_
                refine z_putI_any (pc2 := 10) rfl rfl rfl rfl rfl rfl t56 (fun _ _ => True.intro) (fun u33 u33r => ?_); clear u33r
                refine z_aload_n (pc2 := 11) rfl rfl rfl ?_
                refine z_bipush (pc2 := 13) rfl rfl (by decide) ?_
                refine z_iload_n (pc2 := 14) rfl rfl rfl ?_
                refine z_isub (pc2 := 15) rfl rfl ?_
                refine z_putI (pc2 := 18) rfl rfl rfl rfl rfl rfl t56 (by omega) True.intro ?_
                refine z_aload_n (pc2 := 19) rfl rfl rfl ?_
                refine z_getI (pc2 := 22) 0 rfl rfl rfl rfl rfl t56 ?_
                intro v34 e34 r34 k34
                clear e34
                clear k34
                refine z_iret rfl rfl ?_
                show zB _ _ _ _ _ _ [_] _ _
                refine z_iret rfl rfl ?_
                exact hK _ _ _ (by repeat (first | exact zFr_rf _ | assumption | refine zFr_a ?_ (by decide) | refine zFr_f ?_ (by decide) | refine zFr_n ?_ (by omega) | refine zFr_h ?_ (by omega) | refine zFr_tok ?_ (by omega)))
            ·
              refine z_aload_n (pc2 := 87) rfl rfl rfl ?_
              refine z_iload (pc2 := 89) rfl rfl rfl ?_
              refine z_callV (y2 := 160) (as := [_]) (rest := []) (pc2 := 92) rfl rfl rfl rfl t56 rfl ?_
              refine z_inl ?_
              refine z_lv (lv2 := [(0, _), (1, _)]) ⟨rfl, rfl, trivial⟩ ?_
              refine z_aload_n (pc2 := 1) rfl rfl rfl ?_
              refine z_dup (pc2 := 2) rfl rfl rfl ?_
              refine z_getI (pc2 := 5) 0 rfl rfl rfl rfl rfl t56 ?_
              intro v35 e35 r35 k35
              clear e35
              clear k35
              refine z_iconst (pc2 := 6) rfl rfl ?_
              refine z_iadd (pc2 := 7) rfl rfl ?_
              refine z_putI_any (pc2 := 10) rfl rfl rfl rfl rfl rfl t56 (fun _ _ => True.intro) (fun u36 u36r => ?_); clear u36r
              refine z_aload_n (pc2 := 11) rfl rfl rfl ?_
              refine z_bipush (pc2 := 13) rfl rfl (by decide) ?_
              refine z_iload_n (pc2 := 14) rfl rfl rfl ?_
              refine z_isub (pc2 := 15) rfl rfl ?_
              refine z_putI (pc2 := 18) rfl rfl rfl rfl rfl rfl t56 (by omega) True.intro ?_
              refine z_aload_n (pc2 := 19) rfl rfl rfl ?_
              refine z_getI (pc2 := 22) 0 rfl rfl rfl rfl rfl t56 ?_
              intro v37 e37 r37 k37
              clear e37
              clear k37
              refine z_iret rfl rfl ?_
              show zB _ _ _ _ _ _ [_] _ _
              refine z_iret rfl rfl ?_
              exact hK _ _ _ (by repeat (first | exact zFr_rf _ | assumption | refine zFr_a ?_ (by decide) | refine zFr_f ?_ (by decide) | refine zFr_n ?_ (by omega) | refine zFr_h ?_ (by omega) | refine zFr_tok ?_ (by omega)))
          ·
            refine z_iconst (pc2 := 11) rfl rfl ?_
            refine z_goto (pc2 := 15) rfl rfl ?_
            refine z_zret rfl rfl (by omega) ?_
            show zB _ _ _ _ _ _ [_] _ _
            refine z_if_eq (t := 71) (pc2 := 64) rfl rfl rfl (by omega) (fun c38 => by exfalso; omega) (fun c38 => ?_)
            refine z_aload_n (pc2 := 65) rfl rfl rfl ?_
            refine z_bipush (pc2 := 67) rfl rfl (by decide) ?_
            refine z_callV (y2 := 159) (as := [_]) (rest := []) (pc2 := 70) rfl rfl rfl rfl t56 rfl ?_
            refine z_inl ?_
            refine z_lv (lv2 := [(0, _), (1, _)]) ⟨rfl, rfl, trivial⟩ ?_
            refine z_aload_n (pc2 := 1) rfl rfl rfl ?_
            refine z_iload_n (pc2 := 2) rfl rfl rfl ?_
            refine z_putI (pc2 := 5) rfl rfl rfl rfl rfl rfl t56 (by omega) True.intro ?_
            refine z_iload_n (pc2 := 6) rfl rfl rfl ?_
            refine z_iret rfl rfl ?_
            show zB _ _ _ _ _ _ [_] _ _
            refine z_iret rfl rfl ?_
            exact hK _ _ _ (by repeat (first | exact zFr_rf _ | assumption | refine zFr_a ?_ (by decide) | refine zFr_f ?_ (by decide) | refine zFr_n ?_ (by omega) | refine zFr_h ?_ (by omega) | refine zFr_tok ?_ (by omega)))
        ·
          refine z_aload_n (pc2 := 51) rfl rfl rfl ?_
          refine z_bipush (pc2 := 53) rfl rfl (by decide) ?_
          refine z_callV (y2 := 159) (as := [_]) (rest := []) (pc2 := 56) rfl rfl rfl rfl t56 rfl ?_
          refine z_inl ?_
          refine z_lv (lv2 := [(0, _), (1, _)]) ⟨rfl, rfl, trivial⟩ ?_
          refine z_aload_n (pc2 := 1) rfl rfl rfl ?_
          refine z_iload_n (pc2 := 2) rfl rfl rfl ?_
          refine z_putI (pc2 := 5) rfl rfl rfl rfl rfl rfl t56 (by omega) True.intro ?_
          refine z_iload_n (pc2 := 6) rfl rfl rfl ?_
          refine z_iret rfl rfl ?_
          show zB _ _ _ _ _ _ [_] _ _
          refine z_iret rfl rfl ?_
          exact hK _ _ _ (by repeat (first | exact zFr_rf _ | assumption | refine zFr_a ?_ (by decide) | refine zFr_f ?_ (by decide) | refine zFr_n ?_ (by omega) | refine zFr_h ?_ (by omega) | refine zFr_tok ?_ (by omega)))
      ·
        refine z_aload_n (pc2 := 27) rfl rfl rfl ?_
        refine z_iconst (pc2 := 28) rfl rfl ?_
        refine z_callV (y2 := 159) (as := [_]) (rest := []) (pc2 := 31) rfl rfl rfl rfl t56 rfl ?_
        refine z_inl ?_
        refine z_lv (lv2 := [(0, _), (1, _)]) ⟨rfl, rfl, trivial⟩ ?_
        refine z_aload_n (pc2 := 1) rfl rfl rfl ?_
        refine z_iload_n (pc2 := 2) rfl rfl rfl ?_
        refine z_putI (pc2 := 5) rfl rfl rfl rfl rfl rfl t56 (by omega) True.intro ?_
        refine z_iload_n (pc2 := 6) rfl rfl rfl ?_
        refine z_iret rfl rfl ?_
        show zB _ _ _ _ _ _ [_] _ _
        refine z_iret rfl rfl ?_
        exact hK _ _ _ (by repeat (first | exact zFr_rf _ | assumption | refine zFr_a ?_ (by decide) | refine zFr_f ?_ (by decide) | refine zFr_n ?_ (by omega) | refine zFr_h ?_ (by omega) | refine zFr_tok ?_ (by omega)))
set_option maxHeartbeats 8000000 in
theorem m_putBack {L : Nat} {xs : Nat → Int32} {n sl : Nat} {T : Nat → zT} {I : Nat → Nat → Int} {P : Nat → Nat → Option Nat} {G : Nat → Nat → Int} {K : List zV → zH → Prop} {a : Int} (hT : ∀ a, 56 ≤ a → a ≤ 90 → T a = zFix a) (ha : zR a) (hK : ∀ e I2 G2, zFr I I2 → K [.inl e] (n, sl, T, I2, P, G2)) : zX zMd L xs 213 [.inr (.inl (some 56)), .inl a] (n, sl, T, I, P, G) K := by
  have t56 : T 56 = (1, 12, [1]) := hT 56 (by decide) (by decide)
  have t57 : T 57 = (2, 0, [112200, 1]) := hT 57 (by decide) (by decide)
  refine z_inl ?_
  refine z_lv (lv2 := [(0, _), (1, _)]) ⟨rfl, rfl, trivial⟩ ?_
  refine z_iload_n (pc2 := 1) rfl rfl rfl ?_
  refine z_callS (y2 := 211) (as := [_]) (rest := []) (pc2 := 4) rfl rfl rfl rfl ?_
  refine z_inl ?_
  refine z_lv (lv2 := [(0, _)]) ⟨rfl, trivial⟩ ?_
  refine z_iload_n (pc2 := 1) rfl rfl rfl ?_
  refine z_i2l (pc2 := 2) rfl rfl (by omega) ?_
  refine z_lconst 0 (pc2 := 3) rfl rfl rfl ?_
  refine z_ldc2 (9) (pc2 := 6) rfl rfl rfl ?_
  refine z_callS (y2 := 157) (as := [_, _, _]) (rest := []) (pc2 := 9) rfl rfl rfl rfl ?_
  refine m_in (by omega) (by omega) (by omega) (fun e1 e1a e1b e1c => ?_)
  show zB _ _ _ _ _ _ [_] _ _
  refine z_zret rfl rfl (by omega) ?_
  show zB _ _ _ _ _ _ [_] _ _
  refine z_if_ne (t := 13) (pc2 := 7) rfl rfl rfl (by omega) (fun c2 => ?_) (fun c2 => ?_)
  ·
    refine z_aload_n (pc2 := 14) rfl rfl rfl ?_
    refine z_callV (y2 := 161) (as := []) (rest := []) (pc2 := 17) rfl rfl rfl rfl t56 rfl ?_
    refine z_inl ?_
    refine z_lv (lv2 := [(0, _)]) ⟨rfl, trivial⟩ ?_
    refine z_aload_n (pc2 := 1) rfl rfl rfl ?_
    refine z_getI (pc2 := 4) 0 rfl rfl rfl rfl rfl t56 ?_
    intro v3 e3 r3 k3
    clear e3
    clear k3
    refine z_sipush (pc2 := 7) rfl rfl (by decide) ?_
    refine z_icmp_lt (t := 14) (pc2 := 10) rfl rfl rfl (by omega) (by omega) (fun c4 => ?_) (fun c4 => ?_)
    ·
      refine z_iconst (pc2 := 15) rfl rfl ?_
      refine z_zret rfl rfl (by omega) ?_
      show zB _ _ _ _ _ _ [_] _ _
      refine z_if_eq (t := 27) (pc2 := 20) rfl rfl rfl (by omega) (fun c5 => ?_) (fun c5 => by exfalso; omega)
      refine z_aload_n (pc2 := 28) rfl rfl rfl ?_
      refine z_getP (pc2 := 31) rfl rfl rfl rfl t56 ?_
      intro p6 p6e p6k; replace p6k : p6 = some 57 := p6k; clear p6e; subst p6k
      refine z_aload_n (pc2 := 32) rfl rfl rfl ?_
      refine z_callV (y2 := 162) (as := []) (rest := [_]) (pc2 := 35) rfl rfl rfl rfl t56 rfl ?_
      refine z_inl ?_
      refine z_lv (lv2 := [(0, _)]) ⟨rfl, trivial⟩ ?_
      refine z_ldc (56100) (pc2 := 2) rfl rfl rfl ?_
      refine z_aload_n (pc2 := 3) rfl rfl rfl ?_
      refine z_getI (pc2 := 6) 0 rfl rfl rfl rfl rfl t56 ?_
      intro v7 e7 r7 k7
      clear e7
      replace k7 : (0 : Int) ≤ v7 ∧ v7 ≤ 1 := k7; clear r7
      refine z_imul (pc2 := 7) rfl rfl ?_
      refine z_iret rfl rfl ?_
      show zB _ _ _ _ _ _ [_, _] _ _
      refine z_sipush (pc2 := 38) rfl rfl (by decide) ?_
      refine z_iadd (pc2 := 39) rfl rfl ?_
      refine z_iload_n (pc2 := 40) rfl rfl rfl ?_
      refine z_iadd (pc2 := 41) rfl rfl ?_
      refine z_iald (pc2 := 42) rfl rfl t57 (by omega) (by omega) (by decide) ?_
      intro v8 e8 r8 k8
      clear e8
      replace k8 := ok_stick k8 (by omega)
      refine z_istore_n (lv2 := [(2, _), (0, _), (1, _)]) (pc2 := 43) rfl rfl rfl rfl ?_
      refine z_iload_n (pc2 := 44) rfl rfl rfl ?_
      refine z_if_ne (t := 53) (pc2 := 47) rfl rfl rfl (by omega) (fun c9 => ?_) (fun c9 => ?_)
      ·
        refine z_aload_n (pc2 := 54) rfl rfl rfl ?_
        refine z_callV (y2 := 167) (as := []) (rest := []) (pc2 := 57) rfl rfl rfl rfl t56 rfl ?_
        refine m_keep hT (fun Iw10 Gw10 fw10 ow10 => ?_)
        replace fw10 := zFr_tr (I := I) (by repeat (first | exact zFr_rf _ | assumption | refine zFr_a ?_ (by decide) | refine zFr_f ?_ (by decide) | refine zFr_n ?_ (by omega) | refine zFr_h ?_ (by omega) | refine zFr_tok ?_ (by omega))) fw10
        show zB _ _ _ _ _ _ [] _ _
        refine z_aload_n (pc2 := 58) rfl rfl rfl ?_
        refine z_getP (pc2 := 61) rfl rfl rfl rfl t56 ?_
        intro p11 p11e p11k; replace p11k : p11 = some 57 := p11k; clear p11e; subst p11k
        refine z_aload_n (pc2 := 62) rfl rfl rfl ?_
        refine z_callV (y2 := 162) (as := []) (rest := [_]) (pc2 := 65) rfl rfl rfl rfl t56 rfl ?_
        refine z_inl ?_
        refine z_lv (lv2 := [(0, _)]) ⟨rfl, trivial⟩ ?_
        refine z_ldc (56100) (pc2 := 2) rfl rfl rfl ?_
        refine z_aload_n (pc2 := 3) rfl rfl rfl ?_
        refine z_getI (pc2 := 6) 0 rfl rfl rfl rfl rfl t56 ?_
        intro v12 e12 r12 k12
        clear e12
        replace k12 : (0 : Int) ≤ v12 ∧ v12 ≤ 1 := k12; clear r12
        refine z_imul (pc2 := 7) rfl rfl ?_
        refine z_iret rfl rfl ?_
        show zB _ _ _ _ _ _ [_, _] _ _
        refine z_sipush (pc2 := 68) rfl rfl (by decide) ?_
        refine z_iadd (pc2 := 69) rfl rfl ?_
        refine z_iload_n (pc2 := 70) rfl rfl rfl ?_
        refine z_iadd (pc2 := 71) rfl rfl ?_
        refine z_iconst (pc2 := 72) rfl rfl ?_
        refine z_iast (pc2 := 73) rfl rfl t57 (by omega) (by omega) (by decide) (by omega) (st_stick (by omega) (by first | assumption | exact zGd_0 | (unfold zGd; refine ⟨⟨?_, ?_⟩, ⟨?_, ?_⟩, ?_⟩ <;> omega))) ?_
        refine z_aload_n (pc2 := 74) rfl rfl rfl ?_
        refine z_aload_n (pc2 := 75) rfl rfl rfl ?_
        refine z_iload_n (pc2 := 76) rfl rfl rfl ?_
        refine z_callV (y2 := 185) (as := [_]) (rest := [_]) (pc2 := 79) rfl rfl rfl rfl t56 rfl ?_
        refine m_goesBack hT (by omega) (by assumption) (fun w13 Iw13 Gw13 w13r bw13 => ?_)
        have fw13 := zFr_b bw13
        replace fw13 := zFr_tr (I := I) (by repeat (first | exact zFr_rf _ | assumption | refine zFr_a ?_ (by decide) | refine zFr_f ?_ (by decide) | refine zFr_n ?_ (by omega) | refine zFr_h ?_ (by omega) | refine zFr_tok ?_ (by omega))) fw13
        show zB _ _ _ _ _ _ [_, _] _ _
        refine z_callV (y2 := 158) (as := [_]) (rest := []) (pc2 := 82) rfl rfl rfl rfl t56 rfl ?_
        refine z_inl ?_
        refine z_lv (lv2 := [(0, _), (1, _)]) ⟨rfl, rfl, trivial⟩ ?_
        refine z_aload_n (pc2 := 1) rfl rfl rfl ?_
        refine z_iconst (pc2 := 2) rfl rfl ?_
        refine z_putI (pc2 := 5) rfl rfl rfl rfl rfl rfl t56 (by omega) True.intro ?_
        refine z_iload_n (pc2 := 6) rfl rfl rfl ?_
        refine z_iret rfl rfl ?_
        show zB _ _ _ _ _ _ [_] _ _
        refine z_iret rfl rfl ?_
        exact hK _ _ _ (by repeat (first | exact zFr_rf _ | assumption | refine zFr_a ?_ (by decide) | refine zFr_f ?_ (by decide) | refine zFr_n ?_ (by omega) | refine zFr_h ?_ (by omega) | refine zFr_tok ?_ (by omega)))
      ·
        refine z_aload_n (pc2 := 48) rfl rfl rfl ?_
        refine z_iconst (pc2 := 49) rfl rfl ?_
        refine z_callV (y2 := 160) (as := [_]) (rest := []) (pc2 := 52) rfl rfl rfl rfl t56 rfl ?_
        refine z_inl ?_
        refine z_lv (lv2 := [(0, _), (1, _)]) ⟨rfl, rfl, trivial⟩ ?_
        refine z_aload_n (pc2 := 1) rfl rfl rfl ?_
        refine z_dup (pc2 := 2) rfl rfl rfl ?_
        refine z_getI (pc2 := 5) 0 rfl rfl rfl rfl rfl t56 ?_
        intro v14 e14 r14 k14
        clear e14
        clear k14
        refine z_iconst (pc2 := 6) rfl rfl ?_
        refine z_iadd (pc2 := 7) rfl rfl ?_
        refine z_putI_any (pc2 := 10) rfl rfl rfl rfl rfl rfl t56 (fun _ _ => True.intro) (fun u15 u15r => ?_); clear u15r
        refine z_aload_n (pc2 := 11) rfl rfl rfl ?_
        refine z_bipush (pc2 := 13) rfl rfl (by decide) ?_
        refine z_iload_n (pc2 := 14) rfl rfl rfl ?_
        refine z_isub (pc2 := 15) rfl rfl ?_
        refine z_putI (pc2 := 18) rfl rfl rfl rfl rfl rfl t56 (by omega) True.intro ?_
        refine z_aload_n (pc2 := 19) rfl rfl rfl ?_
        refine z_getI (pc2 := 22) 0 rfl rfl rfl rfl rfl t56 ?_
        intro v16 e16 r16 k16
        clear e16
        clear k16
        refine z_iret rfl rfl ?_
        show zB _ _ _ _ _ _ [_] _ _
        refine z_iret rfl rfl ?_
        exact hK _ _ _ (by repeat (first | exact zFr_rf _ | assumption | refine zFr_a ?_ (by decide) | refine zFr_f ?_ (by decide) | refine zFr_n ?_ (by omega) | refine zFr_h ?_ (by omega) | refine zFr_tok ?_ (by omega)))
    ·
      refine z_iconst (pc2 := 11) rfl rfl ?_
      refine z_goto (pc2 := 15) rfl rfl ?_
      refine z_zret rfl rfl (by omega) ?_
      show zB _ _ _ _ _ _ [_] _ _
      refine z_if_eq (t := 27) (pc2 := 20) rfl rfl rfl (by omega) (fun c17 => by exfalso; omega) (fun c17 => ?_)
      refine z_aload_n (pc2 := 21) rfl rfl rfl ?_
      refine z_bipush (pc2 := 23) rfl rfl (by decide) ?_
      refine z_callV (y2 := 159) (as := [_]) (rest := []) (pc2 := 26) rfl rfl rfl rfl t56 rfl ?_
      refine z_inl ?_
      refine z_lv (lv2 := [(0, _), (1, _)]) ⟨rfl, rfl, trivial⟩ ?_
      refine z_aload_n (pc2 := 1) rfl rfl rfl ?_
      refine z_iload_n (pc2 := 2) rfl rfl rfl ?_
      refine z_putI (pc2 := 5) rfl rfl rfl rfl rfl rfl t56 (by omega) True.intro ?_
      refine z_iload_n (pc2 := 6) rfl rfl rfl ?_
      refine z_iret rfl rfl ?_
      show zB _ _ _ _ _ _ [_] _ _
      refine z_iret rfl rfl ?_
      exact hK _ _ _ (by repeat (first | exact zFr_rf _ | assumption | refine zFr_a ?_ (by decide) | refine zFr_f ?_ (by decide) | refine zFr_n ?_ (by omega) | refine zFr_h ?_ (by omega) | refine zFr_tok ?_ (by omega)))
  ·
    refine z_aload_n (pc2 := 8) rfl rfl rfl ?_
    refine z_iconst (pc2 := 9) rfl rfl ?_
    refine z_callV (y2 := 159) (as := [_]) (rest := []) (pc2 := 12) rfl rfl rfl rfl t56 rfl ?_
    refine z_inl ?_
    refine z_lv (lv2 := [(0, _), (1, _)]) ⟨rfl, rfl, trivial⟩ ?_
    refine z_aload_n (pc2 := 1) rfl rfl rfl ?_
    refine z_iload_n (pc2 := 2) rfl rfl rfl ?_
    refine z_putI (pc2 := 5) rfl rfl rfl rfl rfl rfl t56 (by omega) True.intro ?_
    refine z_iload_n (pc2 := 6) rfl rfl rfl ?_
    refine z_iret rfl rfl ?_
    show zB _ _ _ _ _ _ [_] _ _
    refine z_iret rfl rfl ?_
    exact hK _ _ _ (by repeat (first | exact zFr_rf _ | assumption | refine zFr_a ?_ (by decide) | refine zFr_f ?_ (by decide) | refine zFr_n ?_ (by omega) | refine zFr_h ?_ (by omega) | refine zFr_tok ?_ (by omega)))
set_option maxHeartbeats 8000000 in
theorem m_stack {L : Nat} {xs : Nat → Int32} {n sl : Nat} {T : Nat → zT} {I : Nat → Nat → Int} {P : Nat → Nat → Option Nat} {G : Nat → Nat → Int} {K : List zV → zH → Prop} {a b : Int} (hT : ∀ a, 56 ≤ a → a ≤ 90 → T a = zFix a) (ha : zR a) (hb : zR b) (hK : ∀ e I2 G2, zFr I I2 → K [.inl e] (n, sl, T, I2, P, G2)) : zX zMd L xs 214 [.inr (.inl (some 56)), .inl a, .inl b] (n, sl, T, I, P, G) K := by
  have t56 : T 56 = (1, 12, [1]) := hT 56 (by decide) (by decide)
  have t57 : T 57 = (2, 0, [112200, 1]) := hT 57 (by decide) (by decide)
  refine z_inl ?_
  refine z_lv (lv2 := [(0, _), (1, _), (2, _)]) ⟨rfl, rfl, rfl, trivial⟩ ?_
  refine z_iload_n (pc2 := 1) rfl rfl rfl ?_
  refine z_callS (y2 := 211) (as := [_]) (rest := []) (pc2 := 4) rfl rfl rfl rfl ?_
  refine z_inl ?_
  refine z_lv (lv2 := [(0, _)]) ⟨rfl, trivial⟩ ?_
  refine z_iload_n (pc2 := 1) rfl rfl rfl ?_
  refine z_i2l (pc2 := 2) rfl rfl (by omega) ?_
  refine z_lconst 0 (pc2 := 3) rfl rfl rfl ?_
  refine z_ldc2 (9) (pc2 := 6) rfl rfl rfl ?_
  refine z_callS (y2 := 157) (as := [_, _, _]) (rest := []) (pc2 := 9) rfl rfl rfl rfl ?_
  refine m_in (by omega) (by omega) (by omega) (fun e1 e1a e1b e1c => ?_)
  show zB _ _ _ _ _ _ [_] _ _
  refine z_zret rfl rfl (by omega) ?_
  show zB _ _ _ _ _ _ [_] _ _
  refine z_if_eq (t := 19) (pc2 := 7) rfl rfl rfl (by omega) (fun c2 => ?_) (fun c2 => ?_)
  ·
    refine z_aload_n (pc2 := 20) rfl rfl rfl ?_
    refine z_iconst (pc2 := 21) rfl rfl ?_
    refine z_callV (y2 := 159) (as := [_]) (rest := []) (pc2 := 24) rfl rfl rfl rfl t56 rfl ?_
    refine z_inl ?_
    refine z_lv (lv2 := [(0, _), (1, _)]) ⟨rfl, rfl, trivial⟩ ?_
    refine z_aload_n (pc2 := 1) rfl rfl rfl ?_
    refine z_iload_n (pc2 := 2) rfl rfl rfl ?_
    refine z_putI (pc2 := 5) rfl rfl rfl rfl rfl rfl t56 (by omega) True.intro ?_
    refine z_iload_n (pc2 := 6) rfl rfl rfl ?_
    refine z_iret rfl rfl ?_
    show zB _ _ _ _ _ _ [_] _ _
    refine z_iret rfl rfl ?_
    exact hK _ _ _ (by repeat (first | exact zFr_rf _ | assumption | refine zFr_a ?_ (by decide) | refine zFr_f ?_ (by decide) | refine zFr_n ?_ (by omega) | refine zFr_h ?_ (by omega) | refine zFr_tok ?_ (by omega)))
  ·
    refine z_iload_n (pc2 := 8) rfl rfl rfl ?_
    refine z_callS (y2 := 211) (as := [_]) (rest := []) (pc2 := 11) rfl rfl rfl rfl ?_
    refine z_inl ?_
    refine z_lv (lv2 := [(0, _)]) ⟨rfl, trivial⟩ ?_
    refine z_iload_n (pc2 := 1) rfl rfl rfl ?_
    refine z_i2l (pc2 := 2) rfl rfl (by omega) ?_
    refine z_lconst 0 (pc2 := 3) rfl rfl rfl ?_
    refine z_ldc2 (9) (pc2 := 6) rfl rfl rfl ?_
    refine z_callS (y2 := 157) (as := [_, _, _]) (rest := []) (pc2 := 9) rfl rfl rfl rfl ?_
    refine m_in (by omega) (by omega) (by omega) (fun e3 e3a e3b e3c => ?_)
    show zB _ _ _ _ _ _ [_] _ _
    refine z_zret rfl rfl (by omega) ?_
    show zB _ _ _ _ _ _ [_] _ _
    refine z_if_eq (t := 19) (pc2 := 14) rfl rfl rfl (by omega) (fun c4 => ?_) (fun c4 => ?_)
    ·
      refine z_aload_n (pc2 := 20) rfl rfl rfl ?_
      refine z_iconst (pc2 := 21) rfl rfl ?_
      refine z_callV (y2 := 159) (as := [_]) (rest := []) (pc2 := 24) rfl rfl rfl rfl t56 rfl ?_
      refine z_inl ?_
      refine z_lv (lv2 := [(0, _), (1, _)]) ⟨rfl, rfl, trivial⟩ ?_
      refine z_aload_n (pc2 := 1) rfl rfl rfl ?_
      refine z_iload_n (pc2 := 2) rfl rfl rfl ?_
      refine z_putI (pc2 := 5) rfl rfl rfl rfl rfl rfl t56 (by omega) True.intro ?_
      refine z_iload_n (pc2 := 6) rfl rfl rfl ?_
      refine z_iret rfl rfl ?_
      show zB _ _ _ _ _ _ [_] _ _
      refine z_iret rfl rfl ?_
      exact hK _ _ _ (by repeat (first | exact zFr_rf _ | assumption | refine zFr_a ?_ (by decide) | refine zFr_f ?_ (by decide) | refine zFr_n ?_ (by omega) | refine zFr_h ?_ (by omega) | refine zFr_tok ?_ (by omega)))
    ·
      refine z_iload_n (pc2 := 15) rfl rfl rfl ?_
      refine z_iload_n (pc2 := 16) rfl rfl rfl ?_
      refine z_icmp_ne (t := 25) (pc2 := 19) rfl rfl rfl (by omega) (by omega) (fun c5 => ?_) (fun c5 => ?_)
      ·
        refine z_aload_n (pc2 := 26) rfl rfl rfl ?_
        refine z_callV (y2 := 161) (as := []) (rest := []) (pc2 := 29) rfl rfl rfl rfl t56 rfl ?_
        refine z_inl ?_
        refine z_lv (lv2 := [(0, _)]) ⟨rfl, trivial⟩ ?_
        refine z_aload_n (pc2 := 1) rfl rfl rfl ?_
        refine z_getI (pc2 := 4) 0 rfl rfl rfl rfl rfl t56 ?_
        intro v6 e6 r6 k6
        clear e6
        clear k6
        refine z_sipush (pc2 := 7) rfl rfl (by decide) ?_
        refine z_icmp_lt (t := 14) (pc2 := 10) rfl rfl rfl (by omega) (by omega) (fun c7 => ?_) (fun c7 => ?_)
        ·
          refine z_iconst (pc2 := 15) rfl rfl ?_
          refine z_zret rfl rfl (by omega) ?_
          show zB _ _ _ _ _ _ [_] _ _
          refine z_if_eq (t := 39) (pc2 := 32) rfl rfl rfl (by omega) (fun c8 => ?_) (fun c8 => by exfalso; omega)
          refine z_aload_n (pc2 := 40) rfl rfl rfl ?_
          refine z_getP (pc2 := 43) rfl rfl rfl rfl t56 ?_
          intro p9 p9e p9k; replace p9k : p9 = some 57 := p9k; clear p9e; subst p9k
          refine z_aload_n (pc2 := 44) rfl rfl rfl ?_
          refine z_callV (y2 := 162) (as := []) (rest := [_]) (pc2 := 47) rfl rfl rfl rfl t56 rfl ?_
          refine z_inl ?_
          refine z_lv (lv2 := [(0, _)]) ⟨rfl, trivial⟩ ?_
          refine z_ldc (56100) (pc2 := 2) rfl rfl rfl ?_
          refine z_aload_n (pc2 := 3) rfl rfl rfl ?_
          refine z_getI (pc2 := 6) 0 rfl rfl rfl rfl rfl t56 ?_
          intro v10 e10 r10 k10
          clear e10
          replace k10 : (0 : Int) ≤ v10 ∧ v10 ≤ 1 := k10; clear r10
          refine z_imul (pc2 := 7) rfl rfl ?_
          refine z_iret rfl rfl ?_
          show zB _ _ _ _ _ _ [_, _] _ _
          refine z_sipush (pc2 := 50) rfl rfl (by decide) ?_
          refine z_iadd (pc2 := 51) rfl rfl ?_
          refine z_iload_n (pc2 := 52) rfl rfl rfl ?_
          refine z_iadd (pc2 := 53) rfl rfl ?_
          refine z_iald (pc2 := 54) rfl rfl t57 (by omega) (by omega) (by decide) ?_
          intro v11 e11 r11 k11
          clear e11
          replace k11 := ok_stick k11 (by omega)
          refine z_istore_n (lv2 := [(3, _), (0, _), (1, _), (2, _)]) (pc2 := 55) rfl rfl rfl rfl ?_
          refine z_aload_n (pc2 := 56) rfl rfl rfl ?_
          refine z_getP (pc2 := 59) rfl rfl rfl rfl t56 ?_
          intro p12 p12e p12k; replace p12k : p12 = some 57 := p12k; clear p12e; subst p12k
          refine z_aload_n (pc2 := 60) rfl rfl rfl ?_
          refine z_callV (y2 := 162) (as := []) (rest := [_]) (pc2 := 63) rfl rfl rfl rfl t56 rfl ?_
          refine z_inl ?_
          refine z_lv (lv2 := [(0, _)]) ⟨rfl, trivial⟩ ?_
          refine z_ldc (56100) (pc2 := 2) rfl rfl rfl ?_
          refine z_aload_n (pc2 := 3) rfl rfl rfl ?_
          refine z_getI (pc2 := 6) 0 rfl rfl rfl rfl rfl t56 ?_
          intro v13 e13 r13 k13
          clear e13
          replace k13 : (0 : Int) ≤ v13 ∧ v13 ≤ 1 := k13; clear r13
          refine z_imul (pc2 := 7) rfl rfl ?_
          refine z_iret rfl rfl ?_
          show zB _ _ _ _ _ _ [_, _] _ _
          refine z_sipush (pc2 := 66) rfl rfl (by decide) ?_
          refine z_iadd (pc2 := 67) rfl rfl ?_
          refine z_iload_n (pc2 := 68) rfl rfl rfl ?_
          refine z_iadd (pc2 := 69) rfl rfl ?_
          refine z_iald (pc2 := 70) rfl rfl t57 (by omega) (by omega) (by decide) ?_
          intro v14 e14 r14 k14
          clear e14
          replace k14 := ok_stick k14 (by omega)
          refine z_istore (lv2 := [(4, _), (3, _), (0, _), (1, _), (2, _)]) (pc2 := 72) rfl rfl rfl rfl ?_
          refine z_iload_n (pc2 := 73) rfl rfl rfl ?_
          refine z_if_eq (t := 83) (pc2 := 76) rfl rfl rfl (by omega) (fun c15 => ?_) (fun c15 => ?_)
          ·
            refine z_iload (pc2 := 85) rfl rfl rfl ?_
            refine z_if_eq (t := 102) (pc2 := 88) rfl rfl rfl (by omega) (fun c16 => ?_) (fun c16 => ?_)
            ·
              refine z_iload_n (pc2 := 103) rfl rfl rfl ?_
              refine z_if_eq (t := 111) (pc2 := 106) rfl rfl rfl (by omega) (fun c17 => ?_) (fun c17 => by exfalso; omega)
              refine z_aload_n (pc2 := 112) rfl rfl rfl ?_
              refine z_iconst (pc2 := 113) rfl rfl ?_
              refine z_callV (y2 := 160) (as := [_]) (rest := []) (pc2 := 116) rfl rfl rfl rfl t56 rfl ?_
              refine z_inl ?_
              refine z_lv (lv2 := [(0, _), (1, _)]) ⟨rfl, rfl, trivial⟩ ?_
              refine z_aload_n (pc2 := 1) rfl rfl rfl ?_
              refine z_dup (pc2 := 2) rfl rfl rfl ?_
              refine z_getI (pc2 := 5) 0 rfl rfl rfl rfl rfl t56 ?_
              intro v18 e18 r18 k18
              clear e18
              clear k18
              refine z_iconst (pc2 := 6) rfl rfl ?_
              refine z_iadd (pc2 := 7) rfl rfl ?_
              refine z_putI_any (pc2 := 10) rfl rfl rfl rfl rfl rfl t56 (fun _ _ => True.intro) (fun u19 u19r => ?_); clear u19r
              refine z_aload_n (pc2 := 11) rfl rfl rfl ?_
              refine z_bipush (pc2 := 13) rfl rfl (by decide) ?_
              refine z_iload_n (pc2 := 14) rfl rfl rfl ?_
              refine z_isub (pc2 := 15) rfl rfl ?_
              refine z_putI (pc2 := 18) rfl rfl rfl rfl rfl rfl t56 (by omega) True.intro ?_
              refine z_aload_n (pc2 := 19) rfl rfl rfl ?_
              refine z_getI (pc2 := 22) 0 rfl rfl rfl rfl rfl t56 ?_
              intro v20 e20 r20 k20
              clear e20
              clear k20
              refine z_iret rfl rfl ?_
              show zB _ _ _ _ _ _ [_] _ _
              refine z_iret rfl rfl ?_
              exact hK _ _ _ (by repeat (first | exact zFr_rf _ | assumption | refine zFr_a ?_ (by decide) | refine zFr_f ?_ (by decide) | refine zFr_n ?_ (by omega) | refine zFr_h ?_ (by omega) | refine zFr_tok ?_ (by omega)))
            ·
              refine z_iload (pc2 := 90) rfl rfl rfl ?_
              refine z_callS (y2 := 180) (as := [_]) (rest := []) (pc2 := 93) rfl rfl rfl rfl ?_
              refine m_isLetter (by omega) (fun w21 w21r w21g w21h => ?_)
              show zB _ _ _ _ _ _ [_] _ _
              refine z_if_ne (t := 102) (pc2 := 96) rfl rfl rfl (by omega) (fun c22 => ?_) (fun c22 => ?_)
              ·
                refine z_iload_n (pc2 := 103) rfl rfl rfl ?_
                refine z_if_eq (t := 111) (pc2 := 106) rfl rfl rfl (by omega) (fun c23 => ?_) (fun c23 => by exfalso; omega)
                refine z_aload_n (pc2 := 112) rfl rfl rfl ?_
                refine z_iconst (pc2 := 113) rfl rfl ?_
                refine z_callV (y2 := 160) (as := [_]) (rest := []) (pc2 := 116) rfl rfl rfl rfl t56 rfl ?_
                refine z_inl ?_
                refine z_lv (lv2 := [(0, _), (1, _)]) ⟨rfl, rfl, trivial⟩ ?_
                refine z_aload_n (pc2 := 1) rfl rfl rfl ?_
                refine z_dup (pc2 := 2) rfl rfl rfl ?_
                refine z_getI (pc2 := 5) 0 rfl rfl rfl rfl rfl t56 ?_
                intro v24 e24 r24 k24
                clear e24
                clear k24
                refine z_iconst (pc2 := 6) rfl rfl ?_
                refine z_iadd (pc2 := 7) rfl rfl ?_
                refine z_putI_any (pc2 := 10) rfl rfl rfl rfl rfl rfl t56 (fun _ _ => True.intro) (fun u25 u25r => ?_); clear u25r
                refine z_aload_n (pc2 := 11) rfl rfl rfl ?_
                refine z_bipush (pc2 := 13) rfl rfl (by decide) ?_
                refine z_iload_n (pc2 := 14) rfl rfl rfl ?_
                refine z_isub (pc2 := 15) rfl rfl ?_
                refine z_putI (pc2 := 18) rfl rfl rfl rfl rfl rfl t56 (by omega) True.intro ?_
                refine z_aload_n (pc2 := 19) rfl rfl rfl ?_
                refine z_getI (pc2 := 22) 0 rfl rfl rfl rfl rfl t56 ?_
                intro v26 e26 r26 k26
                clear e26
                clear k26
                refine z_iret rfl rfl ?_
                show zB _ _ _ _ _ _ [_] _ _
                refine z_iret rfl rfl ?_
                exact hK _ _ _ (by repeat (first | exact zFr_rf _ | assumption | refine zFr_a ?_ (by decide) | refine zFr_f ?_ (by decide) | refine zFr_n ?_ (by omega) | refine zFr_h ?_ (by omega) | refine zFr_tok ?_ (by omega)))
              ·
                refine z_aload_n (pc2 := 97) rfl rfl rfl ?_
                refine z_iconst (pc2 := 98) rfl rfl ?_
                refine z_callV (y2 := 160) (as := [_]) (rest := []) (pc2 := 101) rfl rfl rfl rfl t56 rfl ?_
                refine z_inl ?_
                refine z_lv (lv2 := [(0, _), (1, _)]) ⟨rfl, rfl, trivial⟩ ?_
                refine z_aload_n (pc2 := 1) rfl rfl rfl ?_
                refine z_dup (pc2 := 2) rfl rfl rfl ?_
                refine z_getI (pc2 := 5) 0 rfl rfl rfl rfl rfl t56 ?_
                intro v27 e27 r27 k27
                clear e27
                clear k27
                refine z_iconst (pc2 := 6) rfl rfl ?_
                refine z_iadd (pc2 := 7) rfl rfl ?_
                refine z_putI_any (pc2 := 10) rfl rfl rfl rfl rfl rfl t56 (fun _ _ => True.intro) (fun u28 u28r => ?_); clear u28r
                refine z_aload_n (pc2 := 11) rfl rfl rfl ?_
                refine z_bipush (pc2 := 13) rfl rfl (by decide) ?_
                refine z_iload_n (pc2 := 14) rfl rfl rfl ?_
                refine z_isub (pc2 := 15) rfl rfl ?_
                refine z_putI (pc2 := 18) rfl rfl rfl rfl rfl rfl t56 (by omega) True.intro ?_
                refine z_aload_n (pc2 := 19) rfl rfl rfl ?_
                refine z_getI (pc2 := 22) 0 rfl rfl rfl rfl rfl t56 ?_
                intro v29 e29 r29 k29
                clear e29
                clear k29
                refine z_iret rfl rfl ?_
                show zB _ _ _ _ _ _ [_] _ _
                refine z_iret rfl rfl ?_
                exact hK _ _ _ (by repeat (first | exact zFr_rf _ | assumption | refine zFr_a ?_ (by decide) | refine zFr_f ?_ (by decide) | refine zFr_n ?_ (by omega) | refine zFr_h ?_ (by omega) | refine zFr_tok ?_ (by omega)))
          ·
            refine z_iload_n (pc2 := 77) rfl rfl rfl ?_
            refine z_callS (y2 := 180) (as := [_]) (rest := []) (pc2 := 80) rfl rfl rfl rfl ?_
            refine m_isLetter (by omega) (fun w30 w30r w30g w30h => ?_)
            show zB _ _ _ _ _ _ [_] _ _
            refine z_if_eq (t := 96) (pc2 := 83) rfl rfl rfl (by omega) (fun c31 => ?_) (fun c31 => ?_)
            ·
              refine z_aload_n (pc2 := 97) rfl rfl rfl ?_
              refine z_iconst (pc2 := 98) rfl rfl ?_
              refine z_callV (y2 := 160) (as := [_]) (rest := []) (pc2 := 101) rfl rfl rfl rfl t56 rfl ?_
              refine z_inl ?_
              refine z_lv (lv2 := [(0, _), (1, _)]) ⟨rfl, rfl, trivial⟩ ?_
              refine z_aload_n (pc2 := 1) rfl rfl rfl ?_
              refine z_dup (pc2 := 2) rfl rfl rfl ?_
              refine z_getI (pc2 := 5) 0 rfl rfl rfl rfl rfl t56 ?_
              intro v32 e32 r32 k32
              clear e32
              clear k32
              refine z_iconst (pc2 := 6) rfl rfl ?_
              refine z_iadd (pc2 := 7) rfl rfl ?_
              refine z_putI_any (pc2 := 10) rfl rfl rfl rfl rfl rfl t56 (fun _ _ => True.intro) (fun u33 u33r => ?_); clear u33r
              refine z_aload_n (pc2 := 11) rfl rfl rfl ?_
              refine z_bipush (pc2 := 13) rfl rfl (by decide) ?_
              refine z_iload_n (pc2 := 14) rfl rfl rfl ?_
              refine z_isub (pc2 := 15) rfl rfl ?_
              refine z_putI (pc2 := 18) rfl rfl rfl rfl rfl rfl t56 (by omega) True.intro ?_
              refine z_aload_n (pc2 := 19) rfl rfl rfl ?_
              refine z_getI (pc2 := 22) 0 rfl rfl rfl rfl rfl t56 ?_
              intro v34 e34 r34 k34
              clear e34
              clear k34
              refine z_iret rfl rfl ?_
              show zB _ _ _ _ _ _ [_] _ _
              refine z_iret rfl rfl ?_
              exact hK _ _ _ (by repeat (first | exact zFr_rf _ | assumption | refine zFr_a ?_ (by decide) | refine zFr_f ?_ (by decide) | refine zFr_n ?_ (by omega) | refine zFr_h ?_ (by omega) | refine zFr_tok ?_ (by omega)))
            ·
              refine z_iload (pc2 := 85) rfl rfl rfl ?_
              refine z_if_eq (t := 102) (pc2 := 88) rfl rfl rfl (by omega) (fun c35 => ?_) (fun c35 => ?_)
              ·
                refine z_iload_n (pc2 := 103) rfl rfl rfl ?_
                refine z_if_eq (t := 111) (pc2 := 106) rfl rfl rfl (by omega) (fun c36 => ?_) (fun c36 => ?_)
                ·
                  refine z_aload_n (pc2 := 112) rfl rfl rfl ?_
                  refine z_iconst (pc2 := 113) rfl rfl ?_
                  refine z_callV (y2 := 160) (as := [_]) (rest := []) (pc2 := 116) rfl rfl rfl rfl t56 rfl ?_
                  refine z_inl ?_
                  refine z_lv (lv2 := [(0, _), (1, _)]) ⟨rfl, rfl, trivial⟩ ?_
                  refine z_aload_n (pc2 := 1) rfl rfl rfl ?_
                  refine z_dup (pc2 := 2) rfl rfl rfl ?_
                  refine z_getI (pc2 := 5) 0 rfl rfl rfl rfl rfl t56 ?_
                  intro v37 e37 r37 k37
                  clear e37
                  clear k37
                  refine z_iconst (pc2 := 6) rfl rfl ?_
                  refine z_iadd (pc2 := 7) rfl rfl ?_
                  refine z_putI_any (pc2 := 10) rfl rfl rfl rfl rfl rfl t56 (fun _ _ => True.intro) (fun u38 u38r => ?_); clear u38r
                  refine z_aload_n (pc2 := 11) rfl rfl rfl ?_
                  refine z_bipush (pc2 := 13) rfl rfl (by decide) ?_
                  refine z_iload_n (pc2 := 14) rfl rfl rfl ?_
                  refine z_isub (pc2 := 15) rfl rfl ?_
                  refine z_putI (pc2 := 18) rfl rfl rfl rfl rfl rfl t56 (by omega) True.intro ?_
                  refine z_aload_n (pc2 := 19) rfl rfl rfl ?_
                  refine z_getI (pc2 := 22) 0 rfl rfl rfl rfl rfl t56 ?_
                  intro v39 e39 r39 k39
                  clear e39
                  clear k39
                  refine z_iret rfl rfl ?_
                  show zB _ _ _ _ _ _ [_] _ _
                  refine z_iret rfl rfl ?_
                  exact hK _ _ _ (by repeat (first | exact zFr_rf _ | assumption | refine zFr_a ?_ (by decide) | refine zFr_f ?_ (by decide) | refine zFr_n ?_ (by omega) | refine zFr_h ?_ (by omega) | refine zFr_tok ?_ (by omega)))
                ·
                  refine z_iload (pc2 := 108) rfl rfl rfl ?_
                  refine z_if_ne (t := 117) (pc2 := 111) rfl rfl rfl (by omega) (fun c40 => by exfalso; omega) (fun c40 => ?_)
                  refine z_aload_n (pc2 := 112) rfl rfl rfl ?_
                  refine z_iconst (pc2 := 113) rfl rfl ?_
                  refine z_callV (y2 := 160) (as := [_]) (rest := []) (pc2 := 116) rfl rfl rfl rfl t56 rfl ?_
                  refine z_inl ?_
                  refine z_lv (lv2 := [(0, _), (1, _)]) ⟨rfl, rfl, trivial⟩ ?_
                  refine z_aload_n (pc2 := 1) rfl rfl rfl ?_
                  refine z_dup (pc2 := 2) rfl rfl rfl ?_
                  refine z_getI (pc2 := 5) 0 rfl rfl rfl rfl rfl t56 ?_
                  intro v41 e41 r41 k41
                  clear e41
                  clear k41
                  refine z_iconst (pc2 := 6) rfl rfl ?_
                  refine z_iadd (pc2 := 7) rfl rfl ?_
                  refine z_putI_any (pc2 := 10) rfl rfl rfl rfl rfl rfl t56 (fun _ _ => True.intro) (fun u42 u42r => ?_); clear u42r
                  refine z_aload_n (pc2 := 11) rfl rfl rfl ?_
                  refine z_bipush (pc2 := 13) rfl rfl (by decide) ?_
                  refine z_iload_n (pc2 := 14) rfl rfl rfl ?_
                  refine z_isub (pc2 := 15) rfl rfl ?_
                  refine z_putI (pc2 := 18) rfl rfl rfl rfl rfl rfl t56 (by omega) True.intro ?_
                  refine z_aload_n (pc2 := 19) rfl rfl rfl ?_
                  refine z_getI (pc2 := 22) 0 rfl rfl rfl rfl rfl t56 ?_
                  intro v43 e43 r43 k43
                  clear e43
                  clear k43
                  refine z_iret rfl rfl ?_
                  show zB _ _ _ _ _ _ [_] _ _
                  refine z_iret rfl rfl ?_
                  exact hK _ _ _ (by repeat (first | exact zFr_rf _ | assumption | refine zFr_a ?_ (by decide) | refine zFr_f ?_ (by decide) | refine zFr_n ?_ (by omega) | refine zFr_h ?_ (by omega) | refine zFr_tok ?_ (by omega)))
              ·
                refine z_iload (pc2 := 90) rfl rfl rfl ?_
                refine z_callS (y2 := 180) (as := [_]) (rest := []) (pc2 := 93) rfl rfl rfl rfl ?_
                refine m_isLetter (by omega) (fun w44 w44r w44g w44h => ?_)
                show zB _ _ _ _ _ _ [_] _ _
                refine z_if_ne (t := 102) (pc2 := 96) rfl rfl rfl (by omega) (fun c45 => ?_) (fun c45 => ?_)
                ·
                  refine z_iload_n (pc2 := 103) rfl rfl rfl ?_
                  refine z_if_eq (t := 111) (pc2 := 106) rfl rfl rfl (by omega) (fun c46 => ?_) (fun c46 => ?_)
                  ·
                    refine z_aload_n (pc2 := 112) rfl rfl rfl ?_
                    refine z_iconst (pc2 := 113) rfl rfl ?_
                    refine z_callV (y2 := 160) (as := [_]) (rest := []) (pc2 := 116) rfl rfl rfl rfl t56 rfl ?_
                    refine z_inl ?_
                    refine z_lv (lv2 := [(0, _), (1, _)]) ⟨rfl, rfl, trivial⟩ ?_
                    refine z_aload_n (pc2 := 1) rfl rfl rfl ?_
                    refine z_dup (pc2 := 2) rfl rfl rfl ?_
                    refine z_getI (pc2 := 5) 0 rfl rfl rfl rfl rfl t56 ?_
                    intro v47 e47 r47 k47
                    clear e47
                    clear k47
                    refine z_iconst (pc2 := 6) rfl rfl ?_
                    refine z_iadd (pc2 := 7) rfl rfl ?_
                    refine z_putI_any (pc2 := 10) rfl rfl rfl rfl rfl rfl t56 (fun _ _ => True.intro) (fun u48 u48r => ?_); clear u48r
                    refine z_aload_n (pc2 := 11) rfl rfl rfl ?_
                    refine z_bipush (pc2 := 13) rfl rfl (by decide) ?_
                    refine z_iload_n (pc2 := 14) rfl rfl rfl ?_
                    refine z_isub (pc2 := 15) rfl rfl ?_
                    refine z_putI (pc2 := 18) rfl rfl rfl rfl rfl rfl t56 (by omega) True.intro ?_
                    refine z_aload_n (pc2 := 19) rfl rfl rfl ?_
                    refine z_getI (pc2 := 22) 0 rfl rfl rfl rfl rfl t56 ?_
                    intro v49 e49 r49 k49
                    clear e49
                    clear k49
                    refine z_iret rfl rfl ?_
                    show zB _ _ _ _ _ _ [_] _ _
                    refine z_iret rfl rfl ?_
                    exact hK _ _ _ (by repeat (first | exact zFr_rf _ | assumption | refine zFr_a ?_ (by decide) | refine zFr_f ?_ (by decide) | refine zFr_n ?_ (by omega) | refine zFr_h ?_ (by omega) | refine zFr_tok ?_ (by omega)))
                  ·
                    refine z_iload (pc2 := 108) rfl rfl rfl ?_
                    refine z_if_ne (t := 117) (pc2 := 111) rfl rfl rfl (by omega) (fun c50 => ?_) (fun c50 => ?_)
                    ·
                      refine z_aload_n (pc2 := 118) rfl rfl rfl ?_
                      refine z_callV (y2 := 167) (as := []) (rest := []) (pc2 := 121) rfl rfl rfl rfl t56 rfl ?_
                      refine m_keep hT (fun Iw51 Gw51 fw51 ow51 => ?_)
                      replace fw51 := zFr_tr (I := I) (by repeat (first | exact zFr_rf _ | assumption | refine zFr_a ?_ (by decide) | refine zFr_f ?_ (by decide) | refine zFr_n ?_ (by omega) | refine zFr_h ?_ (by omega) | refine zFr_tok ?_ (by omega))) fw51
                      show zB _ _ _ _ _ _ [] _ _
                      refine z_aload_n (pc2 := 122) rfl rfl rfl ?_
                      refine z_getP (pc2 := 125) rfl rfl rfl rfl t56 ?_
                      intro p52 p52e p52k; replace p52k : p52 = some 57 := p52k; clear p52e; subst p52k
                      refine z_aload_n (pc2 := 126) rfl rfl rfl ?_
                      refine z_callV (y2 := 162) (as := []) (rest := [_]) (pc2 := 129) rfl rfl rfl rfl t56 rfl ?_
                      refine z_inl ?_
                      refine z_lv (lv2 := [(0, _)]) ⟨rfl, trivial⟩ ?_
                      refine z_ldc (56100) (pc2 := 2) rfl rfl rfl ?_
                      refine z_aload_n (pc2 := 3) rfl rfl rfl ?_
                      refine z_getI (pc2 := 6) 0 rfl rfl rfl rfl rfl t56 ?_
                      intro v53 e53 r53 k53
                      clear e53
                      replace k53 : (0 : Int) ≤ v53 ∧ v53 ≤ 1 := k53; clear r53
                      refine z_imul (pc2 := 7) rfl rfl ?_
                      refine z_iret rfl rfl ?_
                      show zB _ _ _ _ _ _ [_, _] _ _
                      refine z_sipush (pc2 := 132) rfl rfl (by decide) ?_
                      refine z_iadd (pc2 := 133) rfl rfl ?_
                      refine z_iload_n (pc2 := 134) rfl rfl rfl ?_
                      refine z_iadd (pc2 := 135) rfl rfl ?_
                      refine z_iload_n (pc2 := 136) rfl rfl rfl ?_
                      refine z_iload (pc2 := 138) rfl rfl rfl ?_
                      refine z_callS (y2 := 171) (as := [_, _]) (rest := [_, _]) (pc2 := 141) rfl rfl rfl rfl ?_
                      refine m_stacked (by omega) (by omega) (by assumption) (by assumption) (fun w54 w54r w54g => ?_)
                      show zB _ _ _ _ _ _ [_, _, _] _ _
                      refine z_iast (pc2 := 142) rfl rfl t57 (by omega) (by omega) (by decide) (by omega) (st_stick (by omega) (by first | assumption | exact zGd_0 | (unfold zGd; refine ⟨⟨?_, ?_⟩, ⟨?_, ?_⟩, ?_⟩ <;> omega))) ?_
                      refine z_aload_n (pc2 := 143) rfl rfl rfl ?_
                      refine z_getP (pc2 := 146) rfl rfl rfl rfl t56 ?_
                      intro p55 p55e p55k; replace p55k : p55 = some 57 := p55k; clear p55e; subst p55k
                      refine z_aload_n (pc2 := 147) rfl rfl rfl ?_
                      refine z_callV (y2 := 162) (as := []) (rest := [_]) (pc2 := 150) rfl rfl rfl rfl t56 rfl ?_
                      refine z_inl ?_
                      refine z_lv (lv2 := [(0, _)]) ⟨rfl, trivial⟩ ?_
                      refine z_ldc (56100) (pc2 := 2) rfl rfl rfl ?_
                      refine z_aload_n (pc2 := 3) rfl rfl rfl ?_
                      refine z_getI (pc2 := 6) 0 rfl rfl rfl rfl rfl t56 ?_
                      intro v56 e56 r56 k56
                      clear e56
                      replace k56 : (0 : Int) ≤ v56 ∧ v56 ≤ 1 := k56; clear r56
                      refine z_imul (pc2 := 7) rfl rfl ?_
                      refine z_iret rfl rfl ?_
                      show zB _ _ _ _ _ _ [_, _] _ _
                      refine z_sipush (pc2 := 153) rfl rfl (by decide) ?_
                      refine z_iadd (pc2 := 154) rfl rfl ?_
                      refine z_iload_n (pc2 := 155) rfl rfl rfl ?_
                      refine z_iadd (pc2 := 156) rfl rfl ?_
                      refine z_iconst (pc2 := 157) rfl rfl ?_
                      refine z_iast (pc2 := 158) rfl rfl t57 (by omega) (by omega) (by decide) (by omega) (st_stick (by omega) (by first | assumption | exact zGd_0 | (unfold zGd; refine ⟨⟨?_, ?_⟩, ⟨?_, ?_⟩, ?_⟩ <;> omega))) ?_
                      refine z_aload_n (pc2 := 159) rfl rfl rfl ?_
                      refine z_iconst (pc2 := 160) rfl rfl ?_
                      refine z_callV (y2 := 158) (as := [_]) (rest := []) (pc2 := 163) rfl rfl rfl rfl t56 rfl ?_
                      refine z_inl ?_
                      refine z_lv (lv2 := [(0, _), (1, _)]) ⟨rfl, rfl, trivial⟩ ?_
                      refine z_aload_n (pc2 := 1) rfl rfl rfl ?_
                      refine z_iconst (pc2 := 2) rfl rfl ?_
                      refine z_putI (pc2 := 5) rfl rfl rfl rfl rfl rfl t56 (by omega) True.intro ?_
                      refine z_iload_n (pc2 := 6) rfl rfl rfl ?_
                      refine z_iret rfl rfl ?_
                      show zB _ _ _ _ _ _ [_] _ _
                      refine z_iret rfl rfl ?_
                      exact hK _ _ _ (by repeat (first | exact zFr_rf _ | assumption | refine zFr_a ?_ (by decide) | refine zFr_f ?_ (by decide) | refine zFr_n ?_ (by omega) | refine zFr_h ?_ (by omega) | refine zFr_tok ?_ (by omega)))
                    ·
                      refine z_aload_n (pc2 := 112) rfl rfl rfl ?_
                      refine z_iconst (pc2 := 113) rfl rfl ?_
                      refine z_callV (y2 := 160) (as := [_]) (rest := []) (pc2 := 116) rfl rfl rfl rfl t56 rfl ?_
                      refine z_inl ?_
                      refine z_lv (lv2 := [(0, _), (1, _)]) ⟨rfl, rfl, trivial⟩ ?_
                      refine z_aload_n (pc2 := 1) rfl rfl rfl ?_
                      refine z_dup (pc2 := 2) rfl rfl rfl ?_
                      refine z_getI (pc2 := 5) 0 rfl rfl rfl rfl rfl t56 ?_
                      intro v57 e57 r57 k57
                      clear e57
                      clear k57
                      refine z_iconst (pc2 := 6) rfl rfl ?_
                      refine z_iadd (pc2 := 7) rfl rfl ?_
                      refine z_putI_any (pc2 := 10) rfl rfl rfl rfl rfl rfl t56 (fun _ _ => True.intro) (fun u58 u58r => ?_); clear u58r
                      refine z_aload_n (pc2 := 11) rfl rfl rfl ?_
                      refine z_bipush (pc2 := 13) rfl rfl (by decide) ?_
                      refine z_iload_n (pc2 := 14) rfl rfl rfl ?_
                      refine z_isub (pc2 := 15) rfl rfl ?_
                      refine z_putI (pc2 := 18) rfl rfl rfl rfl rfl rfl t56 (by omega) True.intro ?_
                      refine z_aload_n (pc2 := 19) rfl rfl rfl ?_
                      refine z_getI (pc2 := 22) 0 rfl rfl rfl rfl rfl t56 ?_
                      intro v59 e59 r59 k59
                      clear e59
                      clear k59
                      refine z_iret rfl rfl ?_
                      show zB _ _ _ _ _ _ [_] _ _
                      refine z_iret rfl rfl ?_
                      exact hK _ _ _ (by repeat (first | exact zFr_rf _ | assumption | refine zFr_a ?_ (by decide) | refine zFr_f ?_ (by decide) | refine zFr_n ?_ (by omega) | refine zFr_h ?_ (by omega) | refine zFr_tok ?_ (by omega)))
                ·
                  refine z_aload_n (pc2 := 97) rfl rfl rfl ?_
                  refine z_iconst (pc2 := 98) rfl rfl ?_
                  refine z_callV (y2 := 160) (as := [_]) (rest := []) (pc2 := 101) rfl rfl rfl rfl t56 rfl ?_
                  refine z_inl ?_
                  refine z_lv (lv2 := [(0, _), (1, _)]) ⟨rfl, rfl, trivial⟩ ?_
                  refine z_aload_n (pc2 := 1) rfl rfl rfl ?_
                  refine z_dup (pc2 := 2) rfl rfl rfl ?_
                  refine z_getI (pc2 := 5) 0 rfl rfl rfl rfl rfl t56 ?_
                  intro v60 e60 r60 k60
                  clear e60
                  clear k60
                  refine z_iconst (pc2 := 6) rfl rfl ?_
                  refine z_iadd (pc2 := 7) rfl rfl ?_
                  refine z_putI_any (pc2 := 10) rfl rfl rfl rfl rfl rfl t56 (fun _ _ => True.intro) (fun u61 u61r => ?_); clear u61r
                  refine z_aload_n (pc2 := 11) rfl rfl rfl ?_
                  refine z_bipush (pc2 := 13) rfl rfl (by decide) ?_
                  refine z_iload_n (pc2 := 14) rfl rfl rfl ?_
                  refine z_isub (pc2 := 15) rfl rfl ?_
                  refine z_putI (pc2 := 18) rfl rfl rfl rfl rfl rfl t56 (by omega) True.intro ?_
                  refine z_aload_n (pc2 := 19) rfl rfl rfl ?_
                  refine z_getI (pc2 := 22) 0 rfl rfl rfl rfl rfl t56 ?_
                  intro v62 e62 r62 k62
                  clear e62
                  clear k62
                  refine z_iret rfl rfl ?_
                  show zB _ _ _ _ _ _ [_] _ _
                  refine z_iret rfl rfl ?_
                  exact hK _ _ _ (by repeat (first | exact zFr_rf _ | assumption | refine zFr_a ?_ (by decide) | refine zFr_f ?_ (by decide) | refine zFr_n ?_ (by omega) | refine zFr_h ?_ (by omega) | refine zFr_tok ?_ (by omega)))
        ·
          refine z_iconst (pc2 := 11) rfl rfl ?_
          refine z_goto (pc2 := 15) rfl rfl ?_
          refine z_zret rfl rfl (by omega) ?_
          show zB _ _ _ _ _ _ [_] _ _
          refine z_if_eq (t := 39) (pc2 := 32) rfl rfl rfl (by omega) (fun c63 => by exfalso; omega) (fun c63 => ?_)
          refine z_aload_n (pc2 := 33) rfl rfl rfl ?_
          refine z_bipush (pc2 := 35) rfl rfl (by decide) ?_
          refine z_callV (y2 := 159) (as := [_]) (rest := []) (pc2 := 38) rfl rfl rfl rfl t56 rfl ?_
          refine z_inl ?_
          refine z_lv (lv2 := [(0, _), (1, _)]) ⟨rfl, rfl, trivial⟩ ?_
          refine z_aload_n (pc2 := 1) rfl rfl rfl ?_
          refine z_iload_n (pc2 := 2) rfl rfl rfl ?_
          refine z_putI (pc2 := 5) rfl rfl rfl rfl rfl rfl t56 (by omega) True.intro ?_
          refine z_iload_n (pc2 := 6) rfl rfl rfl ?_
          refine z_iret rfl rfl ?_
          show zB _ _ _ _ _ _ [_] _ _
          refine z_iret rfl rfl ?_
          exact hK _ _ _ (by repeat (first | exact zFr_rf _ | assumption | refine zFr_a ?_ (by decide) | refine zFr_f ?_ (by decide) | refine zFr_n ?_ (by omega) | refine zFr_h ?_ (by omega) | refine zFr_tok ?_ (by omega)))
      ·
        refine z_aload_n (pc2 := 20) rfl rfl rfl ?_
        refine z_iconst (pc2 := 21) rfl rfl ?_
        refine z_callV (y2 := 159) (as := [_]) (rest := []) (pc2 := 24) rfl rfl rfl rfl t56 rfl ?_
        refine z_inl ?_
        refine z_lv (lv2 := [(0, _), (1, _)]) ⟨rfl, rfl, trivial⟩ ?_
        refine z_aload_n (pc2 := 1) rfl rfl rfl ?_
        refine z_iload_n (pc2 := 2) rfl rfl rfl ?_
        refine z_putI (pc2 := 5) rfl rfl rfl rfl rfl rfl t56 (by omega) True.intro ?_
        refine z_iload_n (pc2 := 6) rfl rfl rfl ?_
        refine z_iret rfl rfl ?_
        show zB _ _ _ _ _ _ [_] _ _
        refine z_iret rfl rfl ?_
        exact hK _ _ _ (by repeat (first | exact zFr_rf _ | assumption | refine zFr_a ?_ (by decide) | refine zFr_f ?_ (by decide) | refine zFr_n ?_ (by omega) | refine zFr_h ?_ (by omega) | refine zFr_tok ?_ (by omega)))
