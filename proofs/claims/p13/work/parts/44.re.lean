/-! the reference: rows of the tray, lines that go -/
set_option maxHeartbeats 8000000 in
theorem l_tray2 {L : Nat} {xs : Nat → Int32} {n sl : Nat} {T : Nat → zT} {I : Nat → Nat → Int} {P : Nat → Nat → Option Nat} {K : List zV → zH → Prop} (hT : ∀ a, 56 ≤ a → a ≤ 90 → T a = zFix a) (hK : ∀ e I2 G2, zFr I I2 → K [.inl e] (n, sl, T, I2, P, G2)) (m : Nat) : ∀ (I2 : Nat → Nat → Int) (G2 : Nat → Nat → Int), ∀ (k : Int), 0 ≤ k ∧ k ≤ 8 → zFr I I2 → (8 - k).toNat < m → zB zMd L xs 218 152 [(0, .inr (.inl (some 56))), (4, .inl k)] [] (n, sl, T, I2, P, G2) K := by
  have t56 : T 56 = (1, 12, [1]) := hT 56 (by decide) (by decide)
  have t57 : T 57 = (2, 0, [112200, 1]) := hT 57 (by decide) (by decide)
  induction m with
  | zero => intro I2 G2 k hk hI2 hm; omega
  | succ m ih =>
    intro I2 G2 k hk hI2 hm
    refine z_iload (pc2 := 154) rfl rfl rfl ?_
    refine z_bipush (pc2 := 156) rfl rfl (by decide) ?_
    refine z_icmp_ge (t := 182) (pc2 := 159) rfl rfl rfl (by omega) (by omega) (fun c1 => ?_) (fun c1 => ?_)
    ·
      refine z_aload_n (pc2 := 183) rfl rfl rfl ?_
      refine z_iconst (pc2 := 184) rfl rfl ?_
      refine z_callV (y2 := 158) (as := [_]) (rest := []) (pc2 := 187) rfl rfl rfl rfl t56 rfl ?_
      refine z_inl ?_
      refine z_lv (lv2 := [(0, _), (1, _)]) ⟨rfl, rfl, trivial⟩ ?_
      refine z_aload_n (pc2 := 1) rfl rfl rfl ?_
      refine z_iconst (pc2 := 2) rfl rfl ?_
      refine z_putI (pc2 := 5) rfl rfl rfl rfl rfl rfl t56 (by omega) True.intro ?_
      refine z_iload_n (pc2 := 6) rfl rfl rfl ?_
      refine z_iret rfl rfl ?_
      show zB _ _ _ _ _ _ [_] _ _
      refine z_iret rfl rfl ?_
      exact hK _ _ _ (by repeat (first | exact zFr_rf _ | assumption | refine zFr_a ?_ (by decide) | refine zFr_f ?_ (by decide) | refine zFr_n ?_ (by omega) | refine zFr_h ?_ (by omega) | refine zFr_tok ?_ (by omega)))
    ·
      refine z_aload_n (pc2 := 160) rfl rfl rfl ?_
      refine z_getP (pc2 := 163) rfl rfl rfl rfl t56 ?_
      intro p2 p2e p2k; replace p2k : p2 = some 57 := p2k; clear p2e; subst p2k
      refine z_aload_n (pc2 := 164) rfl rfl rfl ?_
      refine z_callV (y2 := 162) (as := []) (rest := [_]) (pc2 := 167) rfl rfl rfl rfl t56 rfl ?_
      refine z_inl ?_
      refine z_lv (lv2 := [(0, _)]) ⟨rfl, trivial⟩ ?_
      refine z_ldc (56100) (pc2 := 2) rfl rfl rfl ?_
      refine z_aload_n (pc2 := 3) rfl rfl rfl ?_
      refine z_getI (pc2 := 6) 0 rfl rfl rfl rfl rfl t56 ?_
      intro v3 e3 r3 k3
      clear e3
      replace k3 : (0 : Int) ≤ v3 ∧ v3 ≤ 1 := k3; clear r3
      refine z_imul (pc2 := 7) rfl rfl ?_
      refine z_iret rfl rfl ?_
      show zB _ _ _ _ _ _ [_, _] _ _
      refine z_sipush (pc2 := 170) rfl rfl (by decide) ?_
      refine z_iadd (pc2 := 171) rfl rfl ?_
      refine z_iload (pc2 := 173) rfl rfl rfl ?_
      refine z_iadd (pc2 := 174) rfl rfl ?_
      refine z_iconst (pc2 := 175) rfl rfl ?_
      refine z_iast (pc2 := 176) rfl rfl t57 (by omega) (by omega) (by decide) (by omega) (st_stick (by omega) (by first | assumption | exact zGd_0 | (unfold zGd; refine ⟨⟨?_, ?_⟩, ⟨?_, ?_⟩, ?_⟩ <;> omega))) ?_
      refine z_iinc (lv2 := [(4, _), (0, _)]) (pc2 := 179) rfl rfl rfl rfl rfl ?_
      refine z_goto (pc2 := 152) rfl rfl ?_
      refine z_lv (lv2 := [(0, _), (4, _)]) ⟨rfl, rfl, trivial⟩ ?_
      exact ih _ _ _ (by omega) (by repeat (first | exact zFr_rf _ | assumption | refine zFr_a ?_ (by decide) | refine zFr_f ?_ (by decide) | refine zFr_n ?_ (by omega) | refine zFr_h ?_ (by omega) | refine zFr_tok ?_ (by omega))) (by omega)
set_option maxHeartbeats 8000000 in
theorem l_tray {L : Nat} {xs : Nat → Int32} {n sl : Nat} {T : Nat → zT} {I : Nat → Nat → Int} {P : Nat → Nat → Option Nat} {G : Nat → Nat → Int} {K : List zV → zH → Prop} {a b : Int} (hT : ∀ a, 56 ≤ a → a ≤ 90 → T a = zFix a) (ha : 0 ≤ a ∧ a ≤ 2) (hb : -2147483648 ≤ b ∧ b ≤ 8) (hK : ∀ e I2 G2, zFr I I2 → K [.inl e] (n, sl, T, I2, P, G2)) (m : Nat) : ∀ (z k : Int), 0 ≤ z ∧ z ≤ 1 → 0 ≤ k ∧ k ≤ 8 → (8 - k).toNat < m → zB zMd L xs 218 29 [(0, .inr (.inl (some 56))), (1, .inl a), (2, .inl b), (3, .inl z), (4, .inl k)] [] (n, sl, T, I, P, G) K := by
  have t56 : T 56 = (1, 12, [1]) := hT 56 (by decide) (by decide)
  have t57 : T 57 = (2, 0, [112200, 1]) := hT 57 (by decide) (by decide)
  induction m with
  | zero => intro z k hz hk hm; omega
  | succ m ih =>
    intro z k hz hk hm
    refine z_iload (pc2 := 31) rfl rfl rfl ?_
    refine z_aload_n (pc2 := 32) rfl rfl rfl ?_
    refine z_getP (pc2 := 35) rfl rfl rfl rfl t56 ?_
    intro p1 p1e p1k; replace p1k : p1 = some 57 := p1k; clear p1e; subst p1k
    refine z_aload_n (pc2 := 36) rfl rfl rfl ?_
    refine z_callV (y2 := 162) (as := []) (rest := [_, _]) (pc2 := 39) rfl rfl rfl rfl t56 rfl ?_
    refine z_inl ?_
    refine z_lv (lv2 := [(0, _)]) ⟨rfl, trivial⟩ ?_
    refine z_ldc (56100) (pc2 := 2) rfl rfl rfl ?_
    refine z_aload_n (pc2 := 3) rfl rfl rfl ?_
    refine z_getI (pc2 := 6) 0 rfl rfl rfl rfl rfl t56 ?_
    intro v2 e2 r2 k2
    clear e2
    replace k2 : (0 : Int) ≤ v2 ∧ v2 ≤ 1 := k2; clear r2
    refine z_imul (pc2 := 7) rfl rfl ?_
    refine z_iret rfl rfl ?_
    show zB _ _ _ _ _ _ [_, _, _] _ _
    refine z_sipush (pc2 := 42) rfl rfl (by decide) ?_
    refine z_iadd (pc2 := 43) rfl rfl ?_
    refine z_iald (pc2 := 44) rfl rfl t57 (by omega) (by omega) (by decide) ?_
    intro v3 e3 r3 k3
    clear e3
    replace k3 := ok_tray k3 (by omega); clear r3
    refine z_icmp_ge (t := 82) (pc2 := 47) rfl rfl rfl (by omega) (by omega) (fun c4 => ?_) (fun c4 => ?_)
    ·
      refine z_iload_n (pc2 := 83) rfl rfl rfl ?_
      refine z_if_eq (t := 93) (pc2 := 86) rfl rfl rfl (by omega) (fun c5 => ?_) (fun c5 => ?_)
      ·
        refine z_aload_n (pc2 := 94) rfl rfl rfl ?_
        refine z_callV (y2 := 161) (as := []) (rest := []) (pc2 := 97) rfl rfl rfl rfl t56 rfl ?_
        refine z_inl ?_
        refine z_lv (lv2 := [(0, _)]) ⟨rfl, trivial⟩ ?_
        refine z_aload_n (pc2 := 1) rfl rfl rfl ?_
        refine z_getI (pc2 := 4) 0 rfl rfl rfl rfl rfl t56 ?_
        intro v6 e6 r6 k6
        clear e6
        clear k6
        refine z_sipush (pc2 := 7) rfl rfl (by decide) ?_
        refine z_icmp_lt (t := 14) (pc2 := 10) rfl rfl rfl (by omega) (by omega) (fun c7 => ?_) (fun c7 => ?_)
        ·
          refine z_iconst (pc2 := 15) rfl rfl ?_
          refine z_zret rfl rfl (by omega) ?_
          show zB _ _ _ _ _ _ [_] _ _
          refine z_if_eq (t := 107) (pc2 := 100) rfl rfl rfl (by omega) (fun c8 => ?_) (fun c8 => by exfalso; omega)
          refine z_iload_n (pc2 := 108) rfl rfl rfl ?_
          refine z_if_ge (t := 117) (pc2 := 111) rfl rfl rfl (by omega) (fun c9 => ?_) (fun c9 => ?_)
          ·
            refine z_aload_n (pc2 := 118) rfl rfl rfl ?_
            refine z_callV (y2 := 167) (as := []) (rest := []) (pc2 := 121) rfl rfl rfl rfl t56 rfl ?_
            refine m_keep hT (fun Iw10 Gw10 fw10 ow10 => ?_)
            replace fw10 := zFr_tr (I := I) (by repeat (first | exact zFr_rf _ | assumption | refine zFr_a ?_ (by decide) | refine zFr_f ?_ (by decide) | refine zFr_n ?_ (by omega) | refine zFr_h ?_ (by omega) | refine zFr_tok ?_ (by omega))) fw10
            show zB _ _ _ _ _ _ [] _ _
            refine z_aload_n (pc2 := 122) rfl rfl rfl ?_
            refine z_getP (pc2 := 125) rfl rfl rfl rfl t56 ?_
            intro p11 p11e p11k; replace p11k : p11 = some 57 := p11k; clear p11e; subst p11k
            refine z_aload_n (pc2 := 126) rfl rfl rfl ?_
            refine z_callV (y2 := 162) (as := []) (rest := [_]) (pc2 := 129) rfl rfl rfl rfl t56 rfl ?_
            refine z_inl ?_
            refine z_lv (lv2 := [(0, _)]) ⟨rfl, trivial⟩ ?_
            refine z_ldc (56100) (pc2 := 2) rfl rfl rfl ?_
            refine z_aload_n (pc2 := 3) rfl rfl rfl ?_
            refine z_getI (pc2 := 6) 0 rfl rfl rfl rfl rfl t56 ?_
            intro v12 e12 r12 k12
            clear e12
            replace k12 : (0 : Int) ≤ v12 ∧ v12 ≤ 1 := k12; clear r12
            refine z_imul (pc2 := 7) rfl rfl ?_
            refine z_iret rfl rfl ?_
            show zB _ _ _ _ _ _ [_, _] _ _
            refine z_sipush (pc2 := 132) rfl rfl (by decide) ?_
            refine z_iadd (pc2 := 133) rfl rfl ?_
            refine z_iload_n (pc2 := 134) rfl rfl rfl ?_
            refine z_iast (pc2 := 135) rfl rfl t57 (by omega) (by omega) (by decide) (by omega) (st_tray (by omega) (by omega)) ?_
            refine z_aload_n (pc2 := 136) rfl rfl rfl ?_
            refine z_getP (pc2 := 139) rfl rfl rfl rfl t56 ?_
            intro p13 p13e p13k; replace p13k : p13 = some 57 := p13k; clear p13e; subst p13k
            refine z_aload_n (pc2 := 140) rfl rfl rfl ?_
            refine z_callV (y2 := 162) (as := []) (rest := [_]) (pc2 := 143) rfl rfl rfl rfl t56 rfl ?_
            refine z_inl ?_
            refine z_lv (lv2 := [(0, _)]) ⟨rfl, trivial⟩ ?_
            refine z_ldc (56100) (pc2 := 2) rfl rfl rfl ?_
            refine z_aload_n (pc2 := 3) rfl rfl rfl ?_
            refine z_getI (pc2 := 6) 0 rfl rfl rfl rfl rfl t56 ?_
            intro v14 e14 r14 k14
            clear e14
            replace k14 : (0 : Int) ≤ v14 ∧ v14 ≤ 1 := k14; clear r14
            refine z_imul (pc2 := 7) rfl rfl ?_
            refine z_iret rfl rfl ?_
            show zB _ _ _ _ _ _ [_, _] _ _
            refine z_sipush (pc2 := 146) rfl rfl (by decide) ?_
            refine z_iadd (pc2 := 147) rfl rfl ?_
            refine z_iload_n (pc2 := 148) rfl rfl rfl ?_
            refine z_iast (pc2 := 149) rfl rfl t57 (by omega) (by omega) (by decide) (by omega) (st_box (by omega)) ?_
            refine z_iconst (pc2 := 150) rfl rfl ?_
            refine z_istore (lv2 := [(4, _), (0, _), (1, _), (2, _), (3, _)]) (pc2 := 152) rfl rfl rfl rfl ?_
            refine z_lv (lv2 := [(0, _), (4, _)]) ⟨rfl, rfl, trivial⟩ ?_
            exact l_tray2 hT  hK _ _ _ _ (by omega) (by repeat (first | exact zFr_rf _ | assumption | refine zFr_a ?_ (by decide) | refine zFr_f ?_ (by decide) | refine zFr_n ?_ (by omega) | refine zFr_h ?_ (by omega) | refine zFr_tok ?_ (by omega)))  (Nat.lt_succ_self _)
          ·
            refine z_aload_n (pc2 := 112) rfl rfl rfl ?_
            refine z_iconst (pc2 := 113) rfl rfl ?_
            refine z_callV (y2 := 160) (as := [_]) (rest := []) (pc2 := 116) rfl rfl rfl rfl t56 rfl ?_
            refine z_inl ?_
            refine z_lv (lv2 := [(0, _), (1, _)]) ⟨rfl, rfl, trivial⟩ ?_
            refine z_aload_n (pc2 := 1) rfl rfl rfl ?_
            refine z_dup (pc2 := 2) rfl rfl rfl ?_
            refine z_getI (pc2 := 5) 0 rfl rfl rfl rfl rfl t56 ?_
            intro v15 e15 r15 k15
            clear e15
            clear k15
            refine z_iconst (pc2 := 6) rfl rfl ?_
            refine z_iadd (pc2 := 7) rfl rfl ?_
            refine z_putI_any (pc2 := 10) rfl rfl rfl rfl rfl rfl t56 (fun _ _ => True.intro) (fun u16 u16r => ?_); clear u16r
            refine z_aload_n (pc2 := 11) rfl rfl rfl ?_
            refine z_bipush (pc2 := 13) rfl rfl (by decide) ?_
            refine z_iload_n (pc2 := 14) rfl rfl rfl ?_
            refine z_isub (pc2 := 15) rfl rfl ?_
            refine z_putI (pc2 := 18) rfl rfl rfl rfl rfl rfl t56 (by omega) True.intro ?_
            refine z_aload_n (pc2 := 19) rfl rfl rfl ?_
            refine z_getI (pc2 := 22) 0 rfl rfl rfl rfl rfl t56 ?_
            intro v17 e17 r17 k17
            clear e17
            clear k17
            refine z_iret rfl rfl ?_
            show zB _ _ _ _ _ _ [_] _ _
            refine z_iret rfl rfl ?_
            exact hK _ _ _ (by repeat (first | exact zFr_rf _ | assumption | refine zFr_a ?_ (by decide) | refine zFr_f ?_ (by decide) | refine zFr_n ?_ (by omega) | refine zFr_h ?_ (by omega) | refine zFr_tok ?_ (by omega)))
        ·
          refine z_iconst (pc2 := 11) rfl rfl ?_
          refine z_goto (pc2 := 15) rfl rfl ?_
          refine z_zret rfl rfl (by omega) ?_
          show zB _ _ _ _ _ _ [_] _ _
          refine z_if_eq (t := 107) (pc2 := 100) rfl rfl rfl (by omega) (fun c18 => by exfalso; omega) (fun c18 => ?_)
          refine z_aload_n (pc2 := 101) rfl rfl rfl ?_
          refine z_bipush (pc2 := 103) rfl rfl (by decide) ?_
          refine z_callV (y2 := 159) (as := [_]) (rest := []) (pc2 := 106) rfl rfl rfl rfl t56 rfl ?_
          refine z_inl ?_
          refine z_lv (lv2 := [(0, _), (1, _)]) ⟨rfl, rfl, trivial⟩ ?_
          refine z_aload_n (pc2 := 1) rfl rfl rfl ?_
          refine z_iload_n (pc2 := 2) rfl rfl rfl ?_
          refine z_putI (pc2 := 5) rfl rfl rfl rfl rfl rfl t56 (by omega) True.intro ?_
          refine z_iload_n (pc2 := 6) rfl rfl rfl ?_
          refine z_iret rfl rfl ?_
          show zB _ _ _ _ _ _ [_] _ _
          refine z_iret rfl rfl ?_
          exact hK _ _ _ (by repeat (first | exact zFr_rf _ | assumption | refine zFr_a ?_ (by decide) | refine zFr_f ?_ (by decide) | refine zFr_n ?_ (by omega) | refine zFr_h ?_ (by omega) | refine zFr_tok ?_ (by omega)))
      ·
        refine z_aload_n (pc2 := 87) rfl rfl rfl ?_
        refine z_bipush (pc2 := 89) rfl rfl (by decide) ?_
        refine z_callV (y2 := 159) (as := [_]) (rest := []) (pc2 := 92) rfl rfl rfl rfl t56 rfl ?_
        refine z_inl ?_
        refine z_lv (lv2 := [(0, _), (1, _)]) ⟨rfl, rfl, trivial⟩ ?_
        refine z_aload_n (pc2 := 1) rfl rfl rfl ?_
        refine z_iload_n (pc2 := 2) rfl rfl rfl ?_
        refine z_putI (pc2 := 5) rfl rfl rfl rfl rfl rfl t56 (by omega) True.intro ?_
        refine z_iload_n (pc2 := 6) rfl rfl rfl ?_
        refine z_iret rfl rfl ?_
        show zB _ _ _ _ _ _ [_] _ _
        refine z_iret rfl rfl ?_
        exact hK _ _ _ (by repeat (first | exact zFr_rf _ | assumption | refine zFr_a ?_ (by decide) | refine zFr_f ?_ (by decide) | refine zFr_n ?_ (by omega) | refine zFr_h ?_ (by omega) | refine zFr_tok ?_ (by omega)))
    ·
      refine z_iload_n (pc2 := 48) rfl rfl rfl ?_
      refine z_if_ne (t := 70) (pc2 := 51) rfl rfl rfl (by omega) (fun c19 => ?_) (fun c19 => ?_)
      ·
        refine z_iconst (pc2 := 71) rfl rfl ?_
        refine z_goto (pc2 := 75) rfl rfl ?_
        refine z_istore_n (lv2 := [(3, _), (0, _), (1, _), (2, _), (4, _)]) (pc2 := 76) rfl rfl rfl rfl ?_
        refine z_iinc (lv2 := [(4, _), (3, _), (0, _), (1, _), (2, _)]) (pc2 := 79) rfl rfl rfl rfl rfl ?_
        refine z_goto (pc2 := 29) rfl rfl ?_
        refine z_lv (lv2 := [(0, _), (1, _), (2, _), (3, _), (4, _)]) ⟨rfl, rfl, rfl, rfl, rfl, trivial⟩ ?_
        exact ih _ _ (by omega) (by omega) (by omega)
      ·
        refine z_aload_n (pc2 := 52) rfl rfl rfl ?_
        refine z_getP (pc2 := 55) rfl rfl rfl rfl t56 ?_
        intro p20 p20e p20k; replace p20k : p20 = some 57 := p20k; clear p20e; subst p20k
        refine z_aload_n (pc2 := 56) rfl rfl rfl ?_
        refine z_callV (y2 := 162) (as := []) (rest := [_]) (pc2 := 59) rfl rfl rfl rfl t56 rfl ?_
        refine z_inl ?_
        refine z_lv (lv2 := [(0, _)]) ⟨rfl, trivial⟩ ?_
        refine z_ldc (56100) (pc2 := 2) rfl rfl rfl ?_
        refine z_aload_n (pc2 := 3) rfl rfl rfl ?_
        refine z_getI (pc2 := 6) 0 rfl rfl rfl rfl rfl t56 ?_
        intro v21 e21 r21 k21
        clear e21
        replace k21 : (0 : Int) ≤ v21 ∧ v21 ≤ 1 := k21; clear r21
        refine z_imul (pc2 := 7) rfl rfl ?_
        refine z_iret rfl rfl ?_
        show zB _ _ _ _ _ _ [_, _] _ _
        refine z_sipush (pc2 := 62) rfl rfl (by decide) ?_
        refine z_iadd (pc2 := 63) rfl rfl ?_
        refine z_iload (pc2 := 65) rfl rfl rfl ?_
        refine z_iadd (pc2 := 66) rfl rfl ?_
        refine z_iald (pc2 := 67) rfl rfl t57 (by omega) (by omega) (by decide) ?_
        intro v22 e22 r22 k22
        clear e22
        replace k22 := ok_stick k22 (by omega)
        refine z_if_eq (t := 74) (pc2 := 70) rfl rfl rfl (by omega) (fun c23 => ?_) (fun c23 => ?_)
        ·
          refine z_iconst (pc2 := 75) rfl rfl ?_
          refine z_istore_n (lv2 := [(3, _), (0, _), (1, _), (2, _), (4, _)]) (pc2 := 76) rfl rfl rfl rfl ?_
          refine z_iinc (lv2 := [(4, _), (3, _), (0, _), (1, _), (2, _)]) (pc2 := 79) rfl rfl rfl rfl rfl ?_
          refine z_goto (pc2 := 29) rfl rfl ?_
          refine z_lv (lv2 := [(0, _), (1, _), (2, _), (3, _), (4, _)]) ⟨rfl, rfl, rfl, rfl, rfl, trivial⟩ ?_
          exact ih _ _ (by omega) (by omega) (by omega)
        ·
          refine z_iconst (pc2 := 71) rfl rfl ?_
          refine z_goto (pc2 := 75) rfl rfl ?_
          refine z_istore_n (lv2 := [(3, _), (0, _), (1, _), (2, _), (4, _)]) (pc2 := 76) rfl rfl rfl rfl ?_
          refine z_iinc (lv2 := [(4, _), (3, _), (0, _), (1, _), (2, _)]) (pc2 := 79) rfl rfl rfl rfl rfl ?_
          refine z_goto (pc2 := 29) rfl rfl ?_
          refine z_lv (lv2 := [(0, _), (1, _), (2, _), (3, _), (4, _)]) ⟨rfl, rfl, rfl, rfl, rfl, trivial⟩ ?_
          exact ih _ _ (by omega) (by omega) (by omega)
set_option maxHeartbeats 8000000 in
theorem m_tray {L : Nat} {xs : Nat → Int32} {n sl : Nat} {T : Nat → zT} {I : Nat → Nat → Int} {P : Nat → Nat → Option Nat} {G : Nat → Nat → Int} {K : List zV → zH → Prop} {a b : Int} (hT : ∀ a, 56 ≤ a → a ≤ 90 → T a = zFix a) (ha : zR a) (hb : zR b) (hK : ∀ e I2 G2, zFr I I2 → K [.inl e] (n, sl, T, I2, P, G2)) : zX zMd L xs 218 [.inr (.inl (some 56)), .inl a, .inl b] (n, sl, T, I, P, G) K := by
  have t56 : T 56 = (1, 12, [1]) := hT 56 (by decide) (by decide)
  refine z_inl ?_
  refine z_lv (lv2 := [(0, _), (1, _), (2, _)]) ⟨rfl, rfl, rfl, trivial⟩ ?_
  refine z_iload_n (pc2 := 1) rfl rfl rfl ?_
  refine z_i2l (pc2 := 2) rfl rfl (by omega) ?_
  refine z_lconst 0 (pc2 := 3) rfl rfl rfl ?_
  refine z_ldc2 (2) (pc2 := 6) rfl rfl rfl ?_
  refine z_callS (y2 := 157) (as := [_, _, _]) (rest := []) (pc2 := 9) rfl rfl rfl rfl ?_
  refine m_in (by omega) (by omega) (by omega) (fun e1 e1a e1b e1c => ?_)
  show zB _ _ _ _ _ _ [_] _ _
  refine z_if_eq (t := 18) (pc2 := 12) rfl rfl rfl (by omega) (fun c2 => ?_) (fun c2 => ?_)
  ·
    refine z_aload_n (pc2 := 19) rfl rfl rfl ?_
    refine z_iconst (pc2 := 20) rfl rfl ?_
    refine z_callV (y2 := 159) (as := [_]) (rest := []) (pc2 := 23) rfl rfl rfl rfl t56 rfl ?_
    refine z_inl ?_
    refine z_lv (lv2 := [(0, _), (1, _)]) ⟨rfl, rfl, trivial⟩ ?_
    refine z_aload_n (pc2 := 1) rfl rfl rfl ?_
    refine z_iload_n (pc2 := 2) rfl rfl rfl ?_
    refine z_putI (pc2 := 5) rfl rfl rfl rfl rfl rfl t56 (by omega) True.intro ?_
    refine z_iload_n (pc2 := 6) rfl rfl rfl ?_
    refine z_iret rfl rfl ?_
    show zB _ _ _ _ _ _ [_] _ _
    refine z_iret rfl rfl ?_
    exact hK _ _ _ (by repeat (first | exact zFr_rf _ | assumption | refine zFr_a ?_ (by decide) | refine zFr_f ?_ (by decide) | refine zFr_n ?_ (by omega) | refine zFr_h ?_ (by omega) | refine zFr_tok ?_ (by omega)))
  ·
    refine z_iload_n (pc2 := 13) rfl rfl rfl ?_
    refine z_bipush (pc2 := 15) rfl rfl (by decide) ?_
    refine z_icmp_le (t := 24) (pc2 := 18) rfl rfl rfl (by omega) (by omega) (fun c3 => ?_) (fun c3 => ?_)
    ·
      refine z_iconst (pc2 := 25) rfl rfl ?_
      refine z_istore_n (lv2 := [(3, _), (0, _), (1, _), (2, _)]) (pc2 := 26) rfl rfl rfl rfl ?_
      refine z_iconst (pc2 := 27) rfl rfl ?_
      refine z_istore (lv2 := [(4, _), (3, _), (0, _), (1, _), (2, _)]) (pc2 := 29) rfl rfl rfl rfl ?_
      refine z_lv (lv2 := [(0, _), (1, _), (2, _), (3, _), (4, _)]) ⟨rfl, rfl, rfl, rfl, rfl, trivial⟩ ?_
      exact l_tray hT (by omega) (by omega) hK _ _ _ (by omega) (by omega)   (Nat.lt_succ_self _)
    ·
      refine z_aload_n (pc2 := 19) rfl rfl rfl ?_
      refine z_iconst (pc2 := 20) rfl rfl ?_
      refine z_callV (y2 := 159) (as := [_]) (rest := []) (pc2 := 23) rfl rfl rfl rfl t56 rfl ?_
      refine z_inl ?_
      refine z_lv (lv2 := [(0, _), (1, _)]) ⟨rfl, rfl, trivial⟩ ?_
      refine z_aload_n (pc2 := 1) rfl rfl rfl ?_
      refine z_iload_n (pc2 := 2) rfl rfl rfl ?_
      refine z_putI (pc2 := 5) rfl rfl rfl rfl rfl rfl t56 (by omega) True.intro ?_
      refine z_iload_n (pc2 := 6) rfl rfl rfl ?_
      refine z_iret rfl rfl ?_
      show zB _ _ _ _ _ _ [_] _ _
      refine z_iret rfl rfl ?_
      exact hK _ _ _ (by repeat (first | exact zFr_rf _ | assumption | refine zFr_a ?_ (by decide) | refine zFr_f ?_ (by decide) | refine zFr_n ?_ (by omega) | refine zFr_h ?_ (by omega) | refine zFr_tok ?_ (by omega)))
set_option maxHeartbeats 8000000 in
theorem l_clears {L : Nat} {xs : Nat → Int32} {n sl : Nat} {T : Nat → zT} {I : Nat → Nat → Int} {P : Nat → Nat → Option Nat} {K : List zV → zH → Prop} {a q l : Int} (hT : ∀ a, 56 ≤ a → a ≤ 90 → T a = zFix a) (ha : 0 ≤ a ∧ a ≤ 112200) (hq : 0 ≤ q ∧ q ≤ 1) (hl : 0 ≤ l ∧ l ≤ 819) (hat : a = 56100 * q + 1940 + 66 * l) (hK : ∀ e I2 G2, zFb I I2 → K [.inl e] (n, sl, T, I2, P, G2)) (m : Nat) : ∀ (I2 : Nat → Nat → Int) (G2 : Nat → Nat → Int), ∀ (s k : Int), 0 ≤ k ∧ k ≤ 42 → zFb I I2 → (42 - k).toNat < m → zB zMd L xs 242 4 [(0, .inr (.inl (some 56))), (1, .inl a), (2, .inl s), (3, .inl k)] [] (n, sl, T, I2, P, G2) K := by
  have t56 : T 56 = (1, 12, [1]) := hT 56 (by decide) (by decide)
  have t57 : T 57 = (2, 0, [112200, 1]) := hT 57 (by decide) (by decide)
  induction m with
  | zero => intro I2 G2 s k hk hI2 hm; omega
  | succ m ih =>
    intro I2 G2 s k hk hI2 hm
    refine z_iload_n (pc2 := 5) rfl rfl rfl ?_
    refine z_aload_n (pc2 := 6) rfl rfl rfl ?_
    refine z_getP (pc2 := 9) rfl rfl rfl rfl t56 ?_
    intro p1 p1e p1k; replace p1k : p1 = some 57 := p1k; clear p1e; subst p1k
    refine z_iload_n (pc2 := 10) rfl rfl rfl ?_
    refine z_iconst (pc2 := 11) rfl rfl ?_
    refine z_iadd (pc2 := 12) rfl rfl ?_
    refine z_iald (pc2 := 13) rfl rfl t57 (by omega) (by omega) (by decide) ?_
    intro v2 e2 r2 k2
    clear e2
    replace k2 := ok_lsorts k2 (by omega); clear r2
    refine z_icmp_ge (t := 40) (pc2 := 16) rfl rfl rfl (by omega) (by omega) (fun c3 => ?_) (fun c3 => ?_)
    ·
      refine z_iload_n (pc2 := 41) rfl rfl rfl ?_
      refine z_iret rfl rfl ?_
      exact hK _ _ _ hI2
    ·
      refine z_iload_n (pc2 := 17) rfl rfl rfl ?_
      refine z_aload_n (pc2 := 18) rfl rfl rfl ?_
      refine z_aload_n (pc2 := 19) rfl rfl rfl ?_
      refine z_getP (pc2 := 22) rfl rfl rfl rfl t56 ?_
      intro p4 p4e p4k; replace p4k : p4 = some 57 := p4k; clear p4e; subst p4k
      refine z_iload_n (pc2 := 23) rfl rfl rfl ?_
      refine z_bipush (pc2 := 25) rfl rfl (by decide) ?_
      refine z_iadd (pc2 := 26) rfl rfl ?_
      refine z_iload_n (pc2 := 27) rfl rfl rfl ?_
      refine z_iadd (pc2 := 28) rfl rfl ?_
      refine z_iald (pc2 := 29) rfl rfl t57 (by omega) (by omega) (by decide) ?_
      intro v5 e5 r5 k5
      clear e5
      replace k5 := ok_lsort k5 (by omega)
      refine z_callV (y2 := 185) (as := [_]) (rest := [_]) (pc2 := 32) rfl rfl rfl rfl t56 rfl ?_
      refine m_goesBack hT (by omega) (by assumption) (fun w6 Iw6 Gw6 w6r bw6 => ?_)
      have fw6 := zFr_b bw6
      clear fw6
      show zB _ _ _ _ _ _ [_, _] _ _
      refine z_iadd (pc2 := 33) rfl rfl ?_
      refine z_istore_n (lv2 := [(2, _), (0, _), (1, _), (3, _)]) (pc2 := 34) rfl rfl rfl rfl ?_
      refine z_iinc (lv2 := [(3, _), (2, _), (0, _), (1, _)]) (pc2 := 37) rfl rfl rfl rfl rfl ?_
      refine z_goto (pc2 := 4) rfl rfl ?_
      refine z_lv (lv2 := [(0, _), (1, _), (2, _), (3, _)]) ⟨rfl, rfl, rfl, rfl, trivial⟩ ?_
      exact ih _ _ _ _ (by omega) (zFb_tr hI2 (by assumption)) (by omega)
set_option maxHeartbeats 8000000 in
theorem m_clears {L : Nat} {xs : Nat → Int32} {n sl : Nat} {T : Nat → zT} {I : Nat → Nat → Int} {P : Nat → Nat → Option Nat} {G : Nat → Nat → Int} {K : List zV → zH → Prop} {a q l : Int} (hT : ∀ a, 56 ≤ a → a ≤ 90 → T a = zFix a) (ha : 0 ≤ a ∧ a ≤ 112200) (hq : 0 ≤ q ∧ q ≤ 1) (hl : 0 ≤ l ∧ l ≤ 819) (hat : a = 56100 * q + 1940 + 66 * l) (hK : ∀ e I2 G2, zFb I I2 → K [.inl e] (n, sl, T, I2, P, G2)) : zX zMd L xs 242 [.inr (.inl (some 56)), .inl a] (n, sl, T, I, P, G) K := by
  refine z_inl ?_
  refine z_lv (lv2 := [(0, _), (1, _)]) ⟨rfl, rfl, trivial⟩ ?_
  refine z_iconst (pc2 := 1) rfl rfl ?_
  refine z_istore_n (lv2 := [(2, _), (0, _), (1, _)]) (pc2 := 2) rfl rfl rfl rfl ?_
  refine z_iconst (pc2 := 3) rfl rfl ?_
  refine z_istore_n (lv2 := [(3, _), (2, _), (0, _), (1, _)]) (pc2 := 4) rfl rfl rfl rfl ?_
  refine z_lv (lv2 := [(0, _), (1, _), (2, _), (3, _)]) ⟨rfl, rfl, rfl, rfl, trivial⟩ ?_
  exact l_clears hT (by omega) (by omega) (by omega) (by omega) hK _ _ _ _ _ (by omega) (zFb_rf _)  (Nat.lt_succ_self _)
set_option maxHeartbeats 8000000 in
theorem l_drop {L : Nat} {xs : Nat → Int32} {n sl : Nat} {T : Nat → zT} {I : Nat → Nat → Int} {P : Nat → Nat → Option Nat} {K : List zV → zH → Prop} {a q : Int} (hT : ∀ a, 56 ≤ a → a ≤ 90 → T a = zFix a) (ha : 0 ≤ a ∧ a ≤ 88) (hq : 0 ≤ q ∧ q ≤ 1) (hK : ∀ e I2 G2, zFr I I2 → K [.inl e] (n, sl, T, I2, P, G2)) (m : Nat) : ∀ (I2 : Nat → Nat → Int) (G2 : Nat → Nat → Int), ∀ (s k : Int), 0 ≤ k ∧ k ≤ 89 → zDr q a I I2 → (89 - k).toNat < m → zB zMd L xs 243 22 [(0, .inr (.inl (some 56))), (1, .inl a), (2, .inl s), (3, .inl k)] [] (n, sl, T, I2, P, G2) K := by
  have t56 : T 56 = (1, 12, [1]) := hT 56 (by decide) (by decide)
  have t57 : T 57 = (2, 0, [112200, 1]) := hT 57 (by decide) (by decide)
  induction m with
  | zero => intro I2 G2 s k hk hI2 hm; omega
  | succ m ih =>
    intro I2 G2 s k hk hI2 hm
    refine z_iload_n (pc2 := 23) rfl rfl rfl ?_
    refine z_aload_n (pc2 := 24) rfl rfl rfl ?_
    refine z_getP (pc2 := 27) rfl rfl rfl rfl t56 ?_
    intro p1 p1e p1k; replace p1k : p1 = some 57 := p1k; clear p1e; subst p1k
    refine z_aload_n (pc2 := 28) rfl rfl rfl ?_
    refine z_callV (y2 := 162) (as := []) (rest := [_, _]) (pc2 := 31) rfl rfl rfl rfl t56 rfl ?_
    refine z_inl ?_
    refine z_lv (lv2 := [(0, _)]) ⟨rfl, trivial⟩ ?_
    refine z_ldc (56100) (pc2 := 2) rfl rfl rfl ?_
    refine z_aload_n (pc2 := 3) rfl rfl rfl ?_
    refine z_getI (pc2 := 6) 0 rfl rfl rfl rfl rfl t56 ?_
    intro v2 e2 r2 k2
    replace k2 : (0 : Int) ≤ v2 ∧ v2 ≤ 1 := k2; clear r2
    replace e2 : q = v2 := by rw [e2]; first | exact hI2.2.1 | exact Eq.symm hI2.2.1 | (simp [zU]; first | done | exact hI2.2.1 | exact Eq.symm hI2.2.1 | omega)
    subst e2
    refine z_imul (pc2 := 7) rfl rfl ?_
    refine z_iret rfl rfl ?_
    show zB _ _ _ _ _ _ [_, _, _] _ _
    refine z_sipush (pc2 := 34) rfl rfl (by decide) ?_
    refine z_iadd (pc2 := 35) rfl rfl ?_
    refine z_iald (pc2 := 36) rfl rfl t57 (by omega) (by omega) (by decide) ?_
    intro v3 e3 r3 k3
    clear e3
    replace k3 := ok_lines k3 (by omega); clear r3
    refine z_icmp_ge (t := 57) (pc2 := 39) rfl rfl rfl (by omega) (by omega) (fun c4 => ?_) (fun c4 => ?_)
    ·
      refine z_aload_n (pc2 := 58) rfl rfl rfl ?_
      refine z_getP (pc2 := 61) rfl rfl rfl rfl t56 ?_
      intro p5 p5e p5k; replace p5k : p5 = some 57 := p5k; clear p5e; subst p5k
      refine z_aload_n (pc2 := 62) rfl rfl rfl ?_
      refine z_callV (y2 := 162) (as := []) (rest := [_]) (pc2 := 65) rfl rfl rfl rfl t56 rfl ?_
      refine z_inl ?_
      refine z_lv (lv2 := [(0, _)]) ⟨rfl, trivial⟩ ?_
      refine z_ldc (56100) (pc2 := 2) rfl rfl rfl ?_
      refine z_aload_n (pc2 := 3) rfl rfl rfl ?_
      refine z_getI (pc2 := 6) 0 rfl rfl rfl rfl rfl t56 ?_
      intro v6 e6 r6 k6
      replace k6 : (0 : Int) ≤ v6 ∧ v6 ≤ 1 := k6; clear r6
      replace e6 : q = v6 := by rw [e6]; first | exact hI2.2.1 | exact Eq.symm hI2.2.1 | (simp [zU]; first | done | exact hI2.2.1 | exact Eq.symm hI2.2.1 | omega)
      subst e6
      refine z_imul (pc2 := 7) rfl rfl ?_
      refine z_iret rfl rfl ?_
      show zB _ _ _ _ _ _ [_, _] _ _
      refine z_sipush (pc2 := 68) rfl rfl (by decide) ?_
      refine z_iadd (pc2 := 69) rfl rfl ?_
      refine z_iload_n (pc2 := 70) rfl rfl rfl ?_
      refine z_iast (pc2 := 71) rfl rfl t57 (by omega) (by omega) (by decide) (by omega) (st_lines (by omega) (by omega)) ?_
      refine z_aload_n (pc2 := 72) rfl rfl rfl ?_
      refine z_getP (pc2 := 75) rfl rfl rfl rfl t56 ?_
      intro p7 p7e p7k; replace p7k : p7 = some 57 := p7k; clear p7e; subst p7k
      refine z_aload_n (pc2 := 76) rfl rfl rfl ?_
      refine z_callV (y2 := 162) (as := []) (rest := [_]) (pc2 := 79) rfl rfl rfl rfl t56 rfl ?_
      refine z_inl ?_
      refine z_lv (lv2 := [(0, _)]) ⟨rfl, trivial⟩ ?_
      refine z_ldc (56100) (pc2 := 2) rfl rfl rfl ?_
      refine z_aload_n (pc2 := 3) rfl rfl rfl ?_
      refine z_getI (pc2 := 6) 0 rfl rfl rfl rfl rfl t56 ?_
      intro v8 e8 r8 k8
      replace k8 : (0 : Int) ≤ v8 ∧ v8 ≤ 1 := k8; clear r8
      replace e8 : q = v8 := by rw [e8]; first | exact hI2.2.1 | exact Eq.symm hI2.2.1 | (simp [zU]; first | done | exact hI2.2.1 | exact Eq.symm hI2.2.1 | omega)
      subst e8
      refine z_imul (pc2 := 7) rfl rfl ?_
      refine z_iret rfl rfl ?_
      show zB _ _ _ _ _ _ [_, _] _ _
      refine z_sipush (pc2 := 82) rfl rfl (by decide) ?_
      refine z_iadd (pc2 := 83) rfl rfl ?_
      refine z_iconst (pc2 := 84) rfl rfl ?_
      refine z_iast (pc2 := 85) rfl rfl t57 (by omega) (by omega) (by decide) (by omega) (st_lines (by omega) (by omega)) ?_
      refine z_aload_n (pc2 := 86) rfl rfl rfl ?_
      refine z_iload_n (pc2 := 87) rfl rfl rfl ?_
      refine z_callV (y2 := 158) (as := [_]) (rest := []) (pc2 := 90) rfl rfl rfl rfl t56 rfl ?_
      refine z_inl ?_
      refine z_lv (lv2 := [(0, _), (1, _)]) ⟨rfl, rfl, trivial⟩ ?_
      refine z_aload_n (pc2 := 1) rfl rfl rfl ?_
      refine z_iconst (pc2 := 2) rfl rfl ?_
      refine z_putI (pc2 := 5) rfl rfl rfl rfl rfl rfl t56 (by omega) True.intro ?_
      refine z_iload_n (pc2 := 6) rfl rfl rfl ?_
      refine z_iret rfl rfl ?_
      show zB _ _ _ _ _ _ [_] _ _
      refine z_iret rfl rfl ?_
      exact hK _ _ _ (by repeat (first | exact zDr_end hI2 (by omega) | refine zFr_f ?_ (by decide)))
    ·
      refine z_iload_n (pc2 := 40) rfl rfl rfl ?_
      refine z_aload_n (pc2 := 41) rfl rfl rfl ?_
      refine z_aload_n (pc2 := 42) rfl rfl rfl ?_
      refine z_iload_n (pc2 := 43) rfl rfl rfl ?_
      refine z_callV (y2 := 238) (as := [_]) (rest := [_, _]) (pc2 := 46) rfl rfl rfl rfl t56 rfl ?_
      refine z_inl ?_
      refine z_lv (lv2 := [(0, _), (1, _)]) ⟨rfl, rfl, trivial⟩ ?_
      refine z_aload_n (pc2 := 1) rfl rfl rfl ?_
      refine z_callV (y2 := 162) (as := []) (rest := []) (pc2 := 4) rfl rfl rfl rfl t56 rfl ?_
      refine z_inl ?_
      refine z_lv (lv2 := [(0, _)]) ⟨rfl, trivial⟩ ?_
      refine z_ldc (56100) (pc2 := 2) rfl rfl rfl ?_
      refine z_aload_n (pc2 := 3) rfl rfl rfl ?_
      refine z_getI (pc2 := 6) 0 rfl rfl rfl rfl rfl t56 ?_
      intro v9 e9 r9 k9
      replace k9 : (0 : Int) ≤ v9 ∧ v9 ≤ 1 := k9; clear r9
      replace e9 : q = v9 := by rw [e9]; first | exact hI2.2.1 | exact Eq.symm hI2.2.1 | (simp [zU]; first | done | exact hI2.2.1 | exact Eq.symm hI2.2.1 | omega)
      subst e9
      refine z_imul (pc2 := 7) rfl rfl ?_
      refine z_iret rfl rfl ?_
      show zB _ _ _ _ _ _ [_] _ _
      refine z_sipush (pc2 := 7) rfl rfl (by decide) ?_
      refine z_iadd (pc2 := 8) rfl rfl ?_
      refine z_bipush (pc2 := 10) rfl rfl (by decide) ?_
      refine z_iload_n (pc2 := 11) rfl rfl rfl ?_
      refine z_imul (pc2 := 12) rfl rfl ?_
      refine z_iadd (pc2 := 13) rfl rfl ?_
      refine z_iret rfl rfl ?_
      show zB _ _ _ _ _ _ [_, _, _] _ _
      refine z_callV (y2 := 242) (as := [_]) (rest := [_]) (pc2 := 49) rfl rfl rfl rfl t56 rfl ?_
      refine m_clears (q := q) (l := k) hT (by omega) (by omega) (by omega) (by omega) (fun w10 Iw10 Gw10 bw10 => ?_)
      have fw10 := zFr_b bw10
      clear fw10
      show zB _ _ _ _ _ _ [_, _] _ _
      refine z_iadd (pc2 := 50) rfl rfl ?_
      refine z_istore_n (lv2 := [(2, _), (0, _), (1, _), (3, _)]) (pc2 := 51) rfl rfl rfl rfl ?_
      refine z_iinc (lv2 := [(3, _), (2, _), (0, _), (1, _)]) (pc2 := 54) rfl rfl rfl rfl rfl ?_
      refine z_goto (pc2 := 22) rfl rfl ?_
      refine z_lv (lv2 := [(0, _), (1, _), (2, _), (3, _)]) ⟨rfl, rfl, rfl, rfl, trivial⟩ ?_
      exact ih _ _ _ _ (by omega) (zDr_b hI2 (by assumption)) (by omega)
set_option maxHeartbeats 8000000 in
theorem m_drop {L : Nat} {xs : Nat → Int32} {n sl : Nat} {T : Nat → zT} {I : Nat → Nat → Int} {P : Nat → Nat → Option Nat} {G : Nat → Nat → Int} {K : List zV → zH → Prop} {a : Int} (hT : ∀ a, 56 ≤ a → a ≤ 90 → T a = zFix a) (ha : zR a) (hK : ∀ e I2 G2, zFr I I2 → K [.inl e] (n, sl, T, I2, P, G2)) : zX zMd L xs 243 [.inr (.inl (some 56)), .inl a] (n, sl, T, I, P, G) K := by
  have t56 : T 56 = (1, 12, [1]) := hT 56 (by decide) (by decide)
  have t57 : T 57 = (2, 0, [112200, 1]) := hT 57 (by decide) (by decide)
  refine z_inl ?_
  refine z_lv (lv2 := [(0, _), (1, _)]) ⟨rfl, rfl, trivial⟩ ?_
  refine z_aload_n (pc2 := 1) rfl rfl rfl ?_
  refine z_iload_n (pc2 := 2) rfl rfl rfl ?_
  refine z_callV (y2 := 241) (as := [_]) (rest := []) (pc2 := 5) rfl rfl rfl rfl t56 rfl ?_
  refine z_inl ?_
  refine z_lv (lv2 := [(0, _), (1, _)]) ⟨rfl, rfl, trivial⟩ ?_
  refine z_iload_n (pc2 := 1) rfl rfl rfl ?_
  refine z_i2l (pc2 := 2) rfl rfl (by omega) ?_
  refine z_lconst 0 (pc2 := 3) rfl rfl rfl ?_
  refine z_aload_n (pc2 := 4) rfl rfl rfl ?_
  refine z_getP (pc2 := 7) rfl rfl rfl rfl t56 ?_
  intro p1 p1e p1k; replace p1k : p1 = some 57 := p1k; clear p1e; subst p1k
  refine z_aload_n (pc2 := 8) rfl rfl rfl ?_
  refine z_callV (y2 := 162) (as := []) (rest := [_, _, _]) (pc2 := 11) rfl rfl rfl rfl t56 rfl ?_
  refine z_inl ?_
  refine z_lv (lv2 := [(0, _)]) ⟨rfl, trivial⟩ ?_
  refine z_ldc (56100) (pc2 := 2) rfl rfl rfl ?_
  refine z_aload_n (pc2 := 3) rfl rfl rfl ?_
  refine z_getI (pc2 := 6) 0 rfl rfl rfl rfl rfl t56 ?_
  intro v2 e2 r2 k2
  replace k2 : (0 : Int) ≤ v2 ∧ v2 ≤ 1 := k2; clear r2
  refine z_imul (pc2 := 7) rfl rfl ?_
  refine z_iret rfl rfl ?_
  show zB _ _ _ _ _ _ [_, _, _, _] _ _
  refine z_sipush (pc2 := 14) rfl rfl (by decide) ?_
  refine z_iadd (pc2 := 15) rfl rfl ?_
  refine z_iald (pc2 := 16) rfl rfl t57 (by omega) (by omega) (by decide) ?_
  intro v3 e3 r3 k3
  replace k3 := ok_lines k3 (by omega); clear r3
  refine z_iconst (pc2 := 17) rfl rfl ?_
  refine z_isub (pc2 := 18) rfl rfl ?_
  refine z_i2l (pc2 := 19) rfl rfl (by omega) ?_
  refine z_callS (y2 := 157) (as := [_, _, _]) (rest := []) (pc2 := 22) rfl rfl rfl rfl ?_
  refine m_in (by omega) (by omega) (by omega) (fun e4 e4a e4b e4c => ?_)
  show zB _ _ _ _ _ _ [_] _ _
  refine z_zret rfl rfl (by omega) ?_
  show zB _ _ _ _ _ _ [_] _ _
  refine z_if_ne (t := 14) (pc2 := 8) rfl rfl rfl (by omega) (fun c5 => ?_) (fun c5 => ?_)
  ·
    refine z_aload_n (pc2 := 15) rfl rfl rfl ?_
    refine z_callV (y2 := 167) (as := []) (rest := []) (pc2 := 18) rfl rfl rfl rfl t56 rfl ?_
    refine m_keep hT (fun Iw6 Gw6 fw6 ow6 => ?_)
    replace fw6 := zFr_tr (I := I) (by repeat (first | exact zFr_rf _ | assumption | refine zFr_a ?_ (by decide) | refine zFr_f ?_ (by decide) | refine zFr_n ?_ (by omega) | refine zFr_h ?_ (by omega) | refine zFr_tok ?_ (by omega))) fw6
    show zB _ _ _ _ _ _ [] _ _
    refine z_iconst (pc2 := 19) rfl rfl ?_
    refine z_istore_n (lv2 := [(2, _), (0, _), (1, _)]) (pc2 := 20) rfl rfl rfl rfl ?_
    refine z_iload_n (pc2 := 21) rfl rfl rfl ?_
    refine z_istore_n (lv2 := [(3, _), (2, _), (0, _), (1, _)]) (pc2 := 22) rfl rfl rfl rfl ?_
    refine z_lv (lv2 := [(0, _), (1, _), (2, _), (3, _)]) ⟨rfl, rfl, rfl, rfl, trivial⟩ ?_
    exact l_drop hT (q := v2) (by omega) (by omega) hK _ _ _ _ _ (by omega) (zDr_in (by assumption) ow6 (by assumption) (by assumption) (by omega) (by omega))  (Nat.lt_succ_self _)
  ·
    refine z_aload_n (pc2 := 9) rfl rfl rfl ?_
    refine z_iconst (pc2 := 10) rfl rfl ?_
    refine z_callV (y2 := 159) (as := [_]) (rest := []) (pc2 := 13) rfl rfl rfl rfl t56 rfl ?_
    refine z_inl ?_
    refine z_lv (lv2 := [(0, _), (1, _)]) ⟨rfl, rfl, trivial⟩ ?_
    refine z_aload_n (pc2 := 1) rfl rfl rfl ?_
    refine z_iload_n (pc2 := 2) rfl rfl rfl ?_
    refine z_putI (pc2 := 5) rfl rfl rfl rfl rfl rfl t56 (by omega) True.intro ?_
    refine z_iload_n (pc2 := 6) rfl rfl rfl ?_
    refine z_iret rfl rfl ?_
    show zB _ _ _ _ _ _ [_] _ _
    refine z_iret rfl rfl ?_
    exact hK _ _ _ (by repeat (first | exact zFr_rf _ | assumption | refine zFr_a ?_ (by decide) | refine zFr_f ?_ (by decide) | refine zFr_n ?_ (by omega) | refine zFr_h ?_ (by omega) | refine zFr_tok ?_ (by omega)))
