/-! the reference: reading -/
set_option maxHeartbeats 8000000 in
theorem l_joinAt {L : Nat} {xs : Nat → Int32} {n sl : Nat} {T : Nat → zT} {I : Nat → Nat → Int} {P : Nat → Nat → Option Nat} {G : Nat → Nat → Int} {K : List zV → zH → Prop} {p f i d : Int} (hT : ∀ a, 56 ≤ a → a ≤ 90 → T a = zFix a) (hp : 0 ≤ p ∧ p ≤ 11) (hf : 0 ≤ f ∧ f ≤ 3) (hi : 0 ≤ i ∧ i ≤ 39) (hd : -41 ≤ d ∧ d ≤ 40) (hd2 : d ≤ 40 - i) (hK : ∀ e, -4 ≤ e ∧ e ≤ 5 → K [.inl e] (n, sl, T, I, P, G)) (m : Nat) : ∀ (b z k : Int), -4 ≤ b ∧ b ≤ 5 → 0 ≤ z ∧ z ≤ 3 → 0 ≤ k ∧ k ≤ 6 → (6 - k).toNat < m → zB zMd L xs 224 28 [(0, .inr (.inl (some 56))), (1, .inl p), (2, .inl f), (3, .inl i), (4, .inl d), (5, .inl b), (6, .inl z), (7, .inl k)] [] (n, sl, T, I, P, G) K := by
  have t56 : T 56 = (1, 12, [1]) := hT 56 (by decide) (by decide)
  have t65 : T 65 = (2, 0, [8, 3]) := hT 65 (by decide) (by decide)
  have t66 : T 66 = (2, 0, [48, 4]) := hT 66 (by decide) (by decide)
  have t67 : T 67 = (2, 0, [48, 4]) := hT 67 (by decide) (by decide)
  have t68 : T 68 = (2, 0, [48, 5]) := hT 68 (by decide) (by decide)
  have t78 : T 78 = (2, 0, [960, 7]) := hT 78 (by decide) (by decide)
  induction m with
  | zero => intro b z k hb hz hk hm; omega
  | succ m ih =>
    intro b z k hb hz hk hm
    refine z_iload (pc2 := 30) rfl rfl rfl ?_
    refine z_aload_n (pc2 := 31) rfl rfl rfl ?_
    refine z_getP (pc2 := 34) rfl rfl rfl rfl t56 ?_
    intro p1 p1e p1k; replace p1k : p1 = some 65 := p1k; clear p1e; subst p1k
    refine z_aload_n (pc2 := 35) rfl rfl rfl ?_
    refine z_iload_n (pc2 := 36) rfl rfl rfl ?_
    refine z_callV (y2 := 163) (as := [_]) (rest := [_, _]) (pc2 := 39) rfl rfl rfl rfl t56 rfl ?_
    refine z_inl ?_
    refine z_lv (lv2 := [(0, _), (1, _)]) ⟨rfl, rfl, trivial⟩ ?_
    refine z_iconst (pc2 := 1) rfl rfl ?_
    refine z_aload_n (pc2 := 2) rfl rfl rfl ?_
    refine z_getI (pc2 := 5) 0 rfl rfl rfl rfl rfl t56 ?_
    intro v2 e2 r2 k2
    clear e2
    replace k2 : (0 : Int) ≤ v2 ∧ v2 ≤ 1 := k2; clear r2
    refine z_imul (pc2 := 6) rfl rfl ?_
    refine z_iload_n (pc2 := 7) rfl rfl rfl ?_
    refine z_iadd (pc2 := 8) rfl rfl ?_
    refine z_iret rfl rfl ?_
    show zB _ _ _ _ _ _ [_, _, _] _ _
    refine z_iald (pc2 := 40) rfl rfl t65 (by omega) (by omega) (by decide) ?_
    intro v3 e3 r3 k3
    clear e3
    replace k3 : (0 : Int) ≤ v3 ∧ v3 ≤ 6 := k3; clear r3
    refine z_icmp_ge (t := 171) (pc2 := 43) rfl rfl rfl (by omega) (by omega) (fun c4 => ?_) (fun c4 => ?_)
    ·
      refine z_iload (pc2 := 173) rfl rfl rfl ?_
      refine z_iret rfl rfl ?_
      exact hK _ (by omega)
    ·
      refine z_bipush (pc2 := 45) rfl rfl (by decide) ?_
      refine z_aload_n (pc2 := 46) rfl rfl rfl ?_
      refine z_iload_n (pc2 := 47) rfl rfl rfl ?_
      refine z_callV (y2 := 163) (as := [_]) (rest := [_]) (pc2 := 50) rfl rfl rfl rfl t56 rfl ?_
      refine z_inl ?_
      refine z_lv (lv2 := [(0, _), (1, _)]) ⟨rfl, rfl, trivial⟩ ?_
      refine z_iconst (pc2 := 1) rfl rfl ?_
      refine z_aload_n (pc2 := 2) rfl rfl rfl ?_
      refine z_getI (pc2 := 5) 0 rfl rfl rfl rfl rfl t56 ?_
      intro v5 e5 r5 k5
      clear e5
      replace k5 : (0 : Int) ≤ v5 ∧ v5 ≤ 1 := k5; clear r5
      refine z_imul (pc2 := 6) rfl rfl ?_
      refine z_iload_n (pc2 := 7) rfl rfl rfl ?_
      refine z_iadd (pc2 := 8) rfl rfl ?_
      refine z_iret rfl rfl ?_
      show zB _ _ _ _ _ _ [_, _] _ _
      refine z_imul (pc2 := 51) rfl rfl ?_
      refine z_iload (pc2 := 53) rfl rfl rfl ?_
      refine z_iadd (pc2 := 54) rfl rfl ?_
      refine z_istore (lv2 := [(8, _), (0, _), (1, _), (2, _), (3, _), (4, _), (5, _), (6, _), (7, _)]) (pc2 := 56) rfl rfl rfl rfl ?_
      refine z_aload_n (pc2 := 57) rfl rfl rfl ?_
      refine z_getP (pc2 := 60) rfl rfl rfl rfl t56 ?_
      intro p6 p6e p6k; replace p6k : p6 = some 68 := p6k; clear p6e; subst p6k
      refine z_iload (pc2 := 62) rfl rfl rfl ?_
      refine z_iald (pc2 := 63) rfl rfl t68 (by omega) (by omega) (by decide) ?_
      intro v7 e7 r7 k7
      clear e7
      replace k7 : (-1 : Int) ≤ v7 ∧ v7 ≤ 23 := k7; clear r7
      refine z_if_ge (t := 70) (pc2 := 66) rfl rfl rfl (by omega) (fun c8 => ?_) (fun c8 => ?_)
      ·
        refine z_iconst (pc2 := 71) rfl rfl ?_
        refine z_istore (lv2 := [(9, _), (8, _), (0, _), (1, _), (2, _), (3, _), (4, _), (5, _), (6, _), (7, _)]) (pc2 := 73) rfl rfl rfl rfl ?_
        refine z_iload (pc2 := 75) rfl rfl rfl ?_
        refine z_iload (pc2 := 77) rfl rfl rfl ?_
        refine z_icmp_gt (t := 142) (pc2 := 80) rfl rfl rfl (by omega) (by omega) (fun c9 => ?_) (fun c9 => ?_)
        ·
          refine z_iconst (pc2 := 143) rfl rfl ?_
          refine z_istore (lv2 := [(10, _), (9, _), (8, _), (0, _), (1, _), (2, _), (3, _), (4, _), (5, _), (6, _), (7, _)]) (pc2 := 145) rfl rfl rfl rfl ?_
          refine z_iload (pc2 := 147) rfl rfl rfl ?_
          refine z_if_eq (t := 165) (pc2 := 150) rfl rfl rfl (by omega) (fun c10 => ?_) (fun c10 => by exfalso; omega)
          refine z_iinc (lv2 := [(7, _), (10, _), (9, _), (8, _), (0, _), (1, _), (2, _), (3, _), (4, _), (5, _), (6, _)]) (pc2 := 168) rfl rfl rfl rfl rfl ?_
          refine z_goto (pc2 := 28) rfl rfl ?_
          refine z_lv (lv2 := [(0, _), (1, _), (2, _), (3, _), (4, _), (5, _), (6, _), (7, _)]) ⟨rfl, rfl, rfl, rfl, rfl, rfl, rfl, rfl, trivial⟩ ?_
          exact ih _ _ _ (by omega) (by omega) (by omega) (by omega)
        ·
          refine z_aload_n (pc2 := 81) rfl rfl rfl ?_
          refine z_iload_n (pc2 := 82) rfl rfl rfl ?_
          refine z_iload_n (pc2 := 83) rfl rfl rfl ?_
          refine z_callV (y2 := 221) (as := [_, _]) (rest := []) (pc2 := 86) rfl rfl rfl rfl t56 rfl ?_
          refine z_inl ?_
          refine z_lv (lv2 := [(0, _), (1, _), (2, _)]) ⟨rfl, rfl, rfl, trivial⟩ ?_
          refine z_aload_n (pc2 := 1) rfl rfl rfl ?_
          refine z_getP (pc2 := 4) rfl rfl rfl rfl t56 ?_
          intro p11 p11e p11k; replace p11k : p11 = some 78 := p11k; clear p11e; subst p11k
          refine z_bipush (pc2 := 6) rfl rfl (by decide) ?_
          refine z_bipush (pc2 := 8) rfl rfl (by decide) ?_
          refine z_aload_n (pc2 := 9) rfl rfl rfl ?_
          refine z_getI (pc2 := 12) 0 rfl rfl rfl rfl rfl t56 ?_
          intro v12 e12 r12 k12
          clear e12
          replace k12 : (0 : Int) ≤ v12 ∧ v12 ≤ 1 := k12; clear r12
          refine z_imul (pc2 := 13) rfl rfl ?_
          refine z_iload_n (pc2 := 14) rfl rfl rfl ?_
          refine z_iadd (pc2 := 15) rfl rfl ?_
          refine z_imul (pc2 := 16) rfl rfl ?_
          refine z_iload_n (pc2 := 17) rfl rfl rfl ?_
          refine z_iadd (pc2 := 18) rfl rfl ?_
          refine z_iald (pc2 := 19) rfl rfl t78 (by omega) (by omega) (by decide) ?_
          intro v13 e13 r13 k13
          clear e13
          replace k13 : (0 : Int) ≤ v13 ∧ v13 ≤ 127 := k13; clear r13
          refine z_iret rfl rfl ?_
          show zB _ _ _ _ _ _ [_] _ _
          refine z_aload_n (pc2 := 87) rfl rfl rfl ?_
          refine z_getP (pc2 := 90) rfl rfl rfl rfl t56 ?_
          intro p14 p14e p14k; replace p14k : p14 = some 66 := p14k; clear p14e; subst p14k
          refine z_iload (pc2 := 92) rfl rfl rfl ?_
          refine z_iald (pc2 := 93) rfl rfl t66 (by omega) (by omega) (by decide) ?_
          intro v15 e15 r15 k15
          clear e15
          replace k15 : (0 : Int) ≤ v15 ∧ v15 ≤ 23 := k15; clear r15
          refine z_icmp_ne (t := 142) (pc2 := 96) rfl rfl rfl (by omega) (by omega) (fun c16 => ?_) (fun c16 => ?_)
          ·
            refine z_iconst (pc2 := 143) rfl rfl ?_
            refine z_istore (lv2 := [(10, _), (9, _), (8, _), (0, _), (1, _), (2, _), (3, _), (4, _), (5, _), (6, _), (7, _)]) (pc2 := 145) rfl rfl rfl rfl ?_
            refine z_iload (pc2 := 147) rfl rfl rfl ?_
            refine z_if_eq (t := 165) (pc2 := 150) rfl rfl rfl (by omega) (fun c17 => ?_) (fun c17 => by exfalso; omega)
            refine z_iinc (lv2 := [(7, _), (10, _), (9, _), (8, _), (0, _), (1, _), (2, _), (3, _), (4, _), (5, _), (6, _)]) (pc2 := 168) rfl rfl rfl rfl rfl ?_
            refine z_goto (pc2 := 28) rfl rfl ?_
            refine z_lv (lv2 := [(0, _), (1, _), (2, _), (3, _), (4, _), (5, _), (6, _), (7, _)]) ⟨rfl, rfl, rfl, rfl, rfl, rfl, rfl, rfl, trivial⟩ ?_
            exact ih _ _ _ (by omega) (by omega) (by omega) (by omega)
          ·
            refine z_aload_n (pc2 := 97) rfl rfl rfl ?_
            refine z_iload_n (pc2 := 98) rfl rfl rfl ?_
            refine z_iload_n (pc2 := 99) rfl rfl rfl ?_
            refine z_iconst (pc2 := 100) rfl rfl ?_
            refine z_iadd (pc2 := 101) rfl rfl ?_
            refine z_callV (y2 := 221) (as := [_, _]) (rest := []) (pc2 := 104) rfl rfl rfl rfl t56 rfl ?_
            refine z_inl ?_
            refine z_lv (lv2 := [(0, _), (1, _), (2, _)]) ⟨rfl, rfl, rfl, trivial⟩ ?_
            refine z_aload_n (pc2 := 1) rfl rfl rfl ?_
            refine z_getP (pc2 := 4) rfl rfl rfl rfl t56 ?_
            intro p18 p18e p18k; replace p18k : p18 = some 78 := p18k; clear p18e; subst p18k
            refine z_bipush (pc2 := 6) rfl rfl (by decide) ?_
            refine z_bipush (pc2 := 8) rfl rfl (by decide) ?_
            refine z_aload_n (pc2 := 9) rfl rfl rfl ?_
            refine z_getI (pc2 := 12) 0 rfl rfl rfl rfl rfl t56 ?_
            intro v19 e19 r19 k19
            clear e19
            replace k19 : (0 : Int) ≤ v19 ∧ v19 ≤ 1 := k19; clear r19
            refine z_imul (pc2 := 13) rfl rfl ?_
            refine z_iload_n (pc2 := 14) rfl rfl rfl ?_
            refine z_iadd (pc2 := 15) rfl rfl ?_
            refine z_imul (pc2 := 16) rfl rfl ?_
            refine z_iload_n (pc2 := 17) rfl rfl rfl ?_
            refine z_iadd (pc2 := 18) rfl rfl ?_
            refine z_iald (pc2 := 19) rfl rfl t78 (by omega) (by omega) (by decide) ?_
            intro v20 e20 r20 k20
            clear e20
            replace k20 : (0 : Int) ≤ v20 ∧ v20 ≤ 127 := k20; clear r20
            refine z_iret rfl rfl ?_
            show zB _ _ _ _ _ _ [_] _ _
            refine z_aload_n (pc2 := 105) rfl rfl rfl ?_
            refine z_getP (pc2 := 108) rfl rfl rfl rfl t56 ?_
            intro p21 p21e p21k; replace p21k : p21 = some 67 := p21k; clear p21e; subst p21k
            refine z_iload (pc2 := 110) rfl rfl rfl ?_
            refine z_iald (pc2 := 111) rfl rfl t67 (by omega) (by omega) (by decide) ?_
            intro v22 e22 r22 k22
            clear e22
            replace k22 : (0 : Int) ≤ v22 ∧ v22 ≤ 23 := k22; clear r22
            refine z_icmp_ne (t := 142) (pc2 := 114) rfl rfl rfl (by omega) (by omega) (fun c23 => ?_) (fun c23 => ?_)
            ·
              refine z_iconst (pc2 := 143) rfl rfl ?_
              refine z_istore (lv2 := [(10, _), (9, _), (8, _), (0, _), (1, _), (2, _), (3, _), (4, _), (5, _), (6, _), (7, _)]) (pc2 := 145) rfl rfl rfl rfl ?_
              refine z_iload (pc2 := 147) rfl rfl rfl ?_
              refine z_if_eq (t := 165) (pc2 := 150) rfl rfl rfl (by omega) (fun c24 => ?_) (fun c24 => by exfalso; omega)
              refine z_iinc (lv2 := [(7, _), (10, _), (9, _), (8, _), (0, _), (1, _), (2, _), (3, _), (4, _), (5, _), (6, _)]) (pc2 := 168) rfl rfl rfl rfl rfl ?_
              refine z_goto (pc2 := 28) rfl rfl ?_
              refine z_lv (lv2 := [(0, _), (1, _), (2, _), (3, _), (4, _), (5, _), (6, _), (7, _)]) ⟨rfl, rfl, rfl, rfl, rfl, rfl, rfl, rfl, trivial⟩ ?_
              exact ih _ _ _ (by omega) (by omega) (by omega) (by omega)
            ·
              refine z_iload (pc2 := 116) rfl rfl rfl ?_
              refine z_iconst (pc2 := 117) rfl rfl ?_
              refine z_icmp_eq (t := 138) (pc2 := 120) rfl rfl rfl (by omega) (by omega) (fun c25 => by exfalso; omega) (fun c25 => ?_)
              refine z_aload_n (pc2 := 121) rfl rfl rfl ?_
              refine z_iload_n (pc2 := 122) rfl rfl rfl ?_
              refine z_iload_n (pc2 := 123) rfl rfl rfl ?_
              refine z_iconst (pc2 := 124) rfl rfl ?_
              refine z_iadd (pc2 := 125) rfl rfl ?_
              refine z_callV (y2 := 221) (as := [_, _]) (rest := []) (pc2 := 128) rfl rfl rfl rfl t56 rfl ?_
              refine z_inl ?_
              refine z_lv (lv2 := [(0, _), (1, _), (2, _)]) ⟨rfl, rfl, rfl, trivial⟩ ?_
              refine z_aload_n (pc2 := 1) rfl rfl rfl ?_
              refine z_getP (pc2 := 4) rfl rfl rfl rfl t56 ?_
              intro p26 p26e p26k; replace p26k : p26 = some 78 := p26k; clear p26e; subst p26k
              refine z_bipush (pc2 := 6) rfl rfl (by decide) ?_
              refine z_bipush (pc2 := 8) rfl rfl (by decide) ?_
              refine z_aload_n (pc2 := 9) rfl rfl rfl ?_
              refine z_getI (pc2 := 12) 0 rfl rfl rfl rfl rfl t56 ?_
              intro v27 e27 r27 k27
              clear e27
              replace k27 : (0 : Int) ≤ v27 ∧ v27 ≤ 1 := k27; clear r27
              refine z_imul (pc2 := 13) rfl rfl ?_
              refine z_iload_n (pc2 := 14) rfl rfl rfl ?_
              refine z_iadd (pc2 := 15) rfl rfl ?_
              refine z_imul (pc2 := 16) rfl rfl ?_
              refine z_iload_n (pc2 := 17) rfl rfl rfl ?_
              refine z_iadd (pc2 := 18) rfl rfl ?_
              refine z_iald (pc2 := 19) rfl rfl t78 (by omega) (by omega) (by decide) ?_
              intro v28 e28 r28 k28
              clear e28
              replace k28 : (0 : Int) ≤ v28 ∧ v28 ≤ 127 := k28; clear r28
              refine z_iret rfl rfl ?_
              show zB _ _ _ _ _ _ [_] _ _
              refine z_aload_n (pc2 := 129) rfl rfl rfl ?_
              refine z_getP (pc2 := 132) rfl rfl rfl rfl t56 ?_
              intro p29 p29e p29k; replace p29k : p29 = some 68 := p29k; clear p29e; subst p29k
              refine z_iload (pc2 := 134) rfl rfl rfl ?_
              refine z_iald (pc2 := 135) rfl rfl t68 (by omega) (by omega) (by decide) ?_
              intro v30 e30 r30 k30
              clear e30
              replace k30 : (-1 : Int) ≤ v30 ∧ v30 ≤ 23 := k30; clear r30
              refine z_icmp_ne (t := 142) (pc2 := 138) rfl rfl rfl (by omega) (by omega) (fun c31 => ?_) (fun c31 => ?_)
              ·
                refine z_iconst (pc2 := 143) rfl rfl ?_
                refine z_istore (lv2 := [(10, _), (9, _), (8, _), (0, _), (1, _), (2, _), (3, _), (4, _), (5, _), (6, _), (7, _)]) (pc2 := 145) rfl rfl rfl rfl ?_
                refine z_iload (pc2 := 147) rfl rfl rfl ?_
                refine z_if_eq (t := 165) (pc2 := 150) rfl rfl rfl (by omega) (fun c32 => ?_) (fun c32 => by exfalso; omega)
                refine z_iinc (lv2 := [(7, _), (10, _), (9, _), (8, _), (0, _), (1, _), (2, _), (3, _), (4, _), (5, _), (6, _)]) (pc2 := 168) rfl rfl rfl rfl rfl ?_
                refine z_goto (pc2 := 28) rfl rfl ?_
                refine z_lv (lv2 := [(0, _), (1, _), (2, _), (3, _), (4, _), (5, _), (6, _), (7, _)]) ⟨rfl, rfl, rfl, rfl, rfl, rfl, rfl, rfl, trivial⟩ ?_
                exact ih _ _ _ (by omega) (by omega) (by omega) (by omega)
              ·
                refine z_iconst (pc2 := 139) rfl rfl ?_
                refine z_goto (pc2 := 143) rfl rfl ?_
                refine z_istore (lv2 := [(10, _), (9, _), (8, _), (0, _), (1, _), (2, _), (3, _), (4, _), (5, _), (6, _), (7, _)]) (pc2 := 145) rfl rfl rfl rfl ?_
                refine z_iload (pc2 := 147) rfl rfl rfl ?_
                refine z_if_eq (t := 165) (pc2 := 150) rfl rfl rfl (by omega) (fun c33 => by exfalso; omega) (fun c33 => ?_)
                refine z_iload (pc2 := 152) rfl rfl rfl ?_
                refine z_iload (pc2 := 154) rfl rfl rfl ?_
                refine z_icmp_le (t := 165) (pc2 := 157) rfl rfl rfl (by omega) (by omega) (fun c34 => ?_) (fun c34 => ?_)
                ·
                  refine z_iinc (lv2 := [(7, _), (10, _), (9, _), (8, _), (0, _), (1, _), (2, _), (3, _), (4, _), (5, _), (6, _)]) (pc2 := 168) rfl rfl rfl rfl rfl ?_
                  refine z_goto (pc2 := 28) rfl rfl ?_
                  refine z_lv (lv2 := [(0, _), (1, _), (2, _), (3, _), (4, _), (5, _), (6, _), (7, _)]) ⟨rfl, rfl, rfl, rfl, rfl, rfl, rfl, rfl, trivial⟩ ?_
                  exact ih _ _ _ (by omega) (by omega) (by omega) (by omega)
                ·
                  refine z_iload (pc2 := 159) rfl rfl rfl ?_
                  refine z_istore (lv2 := [(5, _), (10, _), (9, _), (8, _), (0, _), (1, _), (2, _), (3, _), (4, _), (6, _), (7, _)]) (pc2 := 161) rfl rfl rfl rfl ?_
                  refine z_iload (pc2 := 163) rfl rfl rfl ?_
                  refine z_istore (lv2 := [(6, _), (5, _), (10, _), (9, _), (8, _), (0, _), (1, _), (2, _), (3, _), (4, _), (7, _)]) (pc2 := 165) rfl rfl rfl rfl ?_
                  refine z_iinc (lv2 := [(7, _), (6, _), (5, _), (10, _), (9, _), (8, _), (0, _), (1, _), (2, _), (3, _), (4, _)]) (pc2 := 168) rfl rfl rfl rfl rfl ?_
                  refine z_goto (pc2 := 28) rfl rfl ?_
                  refine z_lv (lv2 := [(0, _), (1, _), (2, _), (3, _), (4, _), (5, _), (6, _), (7, _)]) ⟨rfl, rfl, rfl, rfl, rfl, rfl, rfl, rfl, trivial⟩ ?_
                  exact ih _ _ _ (by omega) (by omega) (by omega) (by omega)
      ·
        refine z_iconst (pc2 := 67) rfl rfl ?_
        refine z_goto (pc2 := 71) rfl rfl ?_
        refine z_istore (lv2 := [(9, _), (8, _), (0, _), (1, _), (2, _), (3, _), (4, _), (5, _), (6, _), (7, _)]) (pc2 := 73) rfl rfl rfl rfl ?_
        refine z_iload (pc2 := 75) rfl rfl rfl ?_
        refine z_iload (pc2 := 77) rfl rfl rfl ?_
        refine z_icmp_gt (t := 142) (pc2 := 80) rfl rfl rfl (by omega) (by omega) (fun c35 => ?_) (fun c35 => ?_)
        ·
          refine z_iconst (pc2 := 143) rfl rfl ?_
          refine z_istore (lv2 := [(10, _), (9, _), (8, _), (0, _), (1, _), (2, _), (3, _), (4, _), (5, _), (6, _), (7, _)]) (pc2 := 145) rfl rfl rfl rfl ?_
          refine z_iload (pc2 := 147) rfl rfl rfl ?_
          refine z_if_eq (t := 165) (pc2 := 150) rfl rfl rfl (by omega) (fun c36 => ?_) (fun c36 => by exfalso; omega)
          refine z_iinc (lv2 := [(7, _), (10, _), (9, _), (8, _), (0, _), (1, _), (2, _), (3, _), (4, _), (5, _), (6, _)]) (pc2 := 168) rfl rfl rfl rfl rfl ?_
          refine z_goto (pc2 := 28) rfl rfl ?_
          refine z_lv (lv2 := [(0, _), (1, _), (2, _), (3, _), (4, _), (5, _), (6, _), (7, _)]) ⟨rfl, rfl, rfl, rfl, rfl, rfl, rfl, rfl, trivial⟩ ?_
          exact ih _ _ _ (by omega) (by omega) (by omega) (by omega)
        ·
          refine z_aload_n (pc2 := 81) rfl rfl rfl ?_
          refine z_iload_n (pc2 := 82) rfl rfl rfl ?_
          refine z_iload_n (pc2 := 83) rfl rfl rfl ?_
          refine z_callV (y2 := 221) (as := [_, _]) (rest := []) (pc2 := 86) rfl rfl rfl rfl t56 rfl ?_
          refine z_inl ?_
          refine z_lv (lv2 := [(0, _), (1, _), (2, _)]) ⟨rfl, rfl, rfl, trivial⟩ ?_
          refine z_aload_n (pc2 := 1) rfl rfl rfl ?_
          refine z_getP (pc2 := 4) rfl rfl rfl rfl t56 ?_
          intro p37 p37e p37k; replace p37k : p37 = some 78 := p37k; clear p37e; subst p37k
          refine z_bipush (pc2 := 6) rfl rfl (by decide) ?_
          refine z_bipush (pc2 := 8) rfl rfl (by decide) ?_
          refine z_aload_n (pc2 := 9) rfl rfl rfl ?_
          refine z_getI (pc2 := 12) 0 rfl rfl rfl rfl rfl t56 ?_
          intro v38 e38 r38 k38
          clear e38
          replace k38 : (0 : Int) ≤ v38 ∧ v38 ≤ 1 := k38; clear r38
          refine z_imul (pc2 := 13) rfl rfl ?_
          refine z_iload_n (pc2 := 14) rfl rfl rfl ?_
          refine z_iadd (pc2 := 15) rfl rfl ?_
          refine z_imul (pc2 := 16) rfl rfl ?_
          refine z_iload_n (pc2 := 17) rfl rfl rfl ?_
          refine z_iadd (pc2 := 18) rfl rfl ?_
          refine z_iald (pc2 := 19) rfl rfl t78 (by omega) (by omega) (by decide) ?_
          intro v39 e39 r39 k39
          clear e39
          replace k39 : (0 : Int) ≤ v39 ∧ v39 ≤ 127 := k39; clear r39
          refine z_iret rfl rfl ?_
          show zB _ _ _ _ _ _ [_] _ _
          refine z_aload_n (pc2 := 87) rfl rfl rfl ?_
          refine z_getP (pc2 := 90) rfl rfl rfl rfl t56 ?_
          intro p40 p40e p40k; replace p40k : p40 = some 66 := p40k; clear p40e; subst p40k
          refine z_iload (pc2 := 92) rfl rfl rfl ?_
          refine z_iald (pc2 := 93) rfl rfl t66 (by omega) (by omega) (by decide) ?_
          intro v41 e41 r41 k41
          clear e41
          replace k41 : (0 : Int) ≤ v41 ∧ v41 ≤ 23 := k41; clear r41
          refine z_icmp_ne (t := 142) (pc2 := 96) rfl rfl rfl (by omega) (by omega) (fun c42 => ?_) (fun c42 => ?_)
          ·
            refine z_iconst (pc2 := 143) rfl rfl ?_
            refine z_istore (lv2 := [(10, _), (9, _), (8, _), (0, _), (1, _), (2, _), (3, _), (4, _), (5, _), (6, _), (7, _)]) (pc2 := 145) rfl rfl rfl rfl ?_
            refine z_iload (pc2 := 147) rfl rfl rfl ?_
            refine z_if_eq (t := 165) (pc2 := 150) rfl rfl rfl (by omega) (fun c43 => ?_) (fun c43 => by exfalso; omega)
            refine z_iinc (lv2 := [(7, _), (10, _), (9, _), (8, _), (0, _), (1, _), (2, _), (3, _), (4, _), (5, _), (6, _)]) (pc2 := 168) rfl rfl rfl rfl rfl ?_
            refine z_goto (pc2 := 28) rfl rfl ?_
            refine z_lv (lv2 := [(0, _), (1, _), (2, _), (3, _), (4, _), (5, _), (6, _), (7, _)]) ⟨rfl, rfl, rfl, rfl, rfl, rfl, rfl, rfl, trivial⟩ ?_
            exact ih _ _ _ (by omega) (by omega) (by omega) (by omega)
          ·
            refine z_aload_n (pc2 := 97) rfl rfl rfl ?_
            refine z_iload_n (pc2 := 98) rfl rfl rfl ?_
            refine z_iload_n (pc2 := 99) rfl rfl rfl ?_
            refine z_iconst (pc2 := 100) rfl rfl ?_
            refine z_iadd (pc2 := 101) rfl rfl ?_
            refine z_callV (y2 := 221) (as := [_, _]) (rest := []) (pc2 := 104) rfl rfl rfl rfl t56 rfl ?_
            refine z_inl ?_
            refine z_lv (lv2 := [(0, _), (1, _), (2, _)]) ⟨rfl, rfl, rfl, trivial⟩ ?_
            refine z_aload_n (pc2 := 1) rfl rfl rfl ?_
            refine z_getP (pc2 := 4) rfl rfl rfl rfl t56 ?_
            intro p44 p44e p44k; replace p44k : p44 = some 78 := p44k; clear p44e; subst p44k
            refine z_bipush (pc2 := 6) rfl rfl (by decide) ?_
            refine z_bipush (pc2 := 8) rfl rfl (by decide) ?_
            refine z_aload_n (pc2 := 9) rfl rfl rfl ?_
            refine z_getI (pc2 := 12) 0 rfl rfl rfl rfl rfl t56 ?_
            intro v45 e45 r45 k45
            clear e45
            replace k45 : (0 : Int) ≤ v45 ∧ v45 ≤ 1 := k45; clear r45
            refine z_imul (pc2 := 13) rfl rfl ?_
            refine z_iload_n (pc2 := 14) rfl rfl rfl ?_
            refine z_iadd (pc2 := 15) rfl rfl ?_
            refine z_imul (pc2 := 16) rfl rfl ?_
            refine z_iload_n (pc2 := 17) rfl rfl rfl ?_
            refine z_iadd (pc2 := 18) rfl rfl ?_
            refine z_iald (pc2 := 19) rfl rfl t78 (by omega) (by omega) (by decide) ?_
            intro v46 e46 r46 k46
            clear e46
            replace k46 : (0 : Int) ≤ v46 ∧ v46 ≤ 127 := k46; clear r46
            refine z_iret rfl rfl ?_
            show zB _ _ _ _ _ _ [_] _ _
            refine z_aload_n (pc2 := 105) rfl rfl rfl ?_
            refine z_getP (pc2 := 108) rfl rfl rfl rfl t56 ?_
            intro p47 p47e p47k; replace p47k : p47 = some 67 := p47k; clear p47e; subst p47k
            refine z_iload (pc2 := 110) rfl rfl rfl ?_
            refine z_iald (pc2 := 111) rfl rfl t67 (by omega) (by omega) (by decide) ?_
            intro v48 e48 r48 k48
            clear e48
            replace k48 : (0 : Int) ≤ v48 ∧ v48 ≤ 23 := k48; clear r48
            refine z_icmp_ne (t := 142) (pc2 := 114) rfl rfl rfl (by omega) (by omega) (fun c49 => ?_) (fun c49 => ?_)
            ·
              refine z_iconst (pc2 := 143) rfl rfl ?_
              refine z_istore (lv2 := [(10, _), (9, _), (8, _), (0, _), (1, _), (2, _), (3, _), (4, _), (5, _), (6, _), (7, _)]) (pc2 := 145) rfl rfl rfl rfl ?_
              refine z_iload (pc2 := 147) rfl rfl rfl ?_
              refine z_if_eq (t := 165) (pc2 := 150) rfl rfl rfl (by omega) (fun c50 => ?_) (fun c50 => by exfalso; omega)
              refine z_iinc (lv2 := [(7, _), (10, _), (9, _), (8, _), (0, _), (1, _), (2, _), (3, _), (4, _), (5, _), (6, _)]) (pc2 := 168) rfl rfl rfl rfl rfl ?_
              refine z_goto (pc2 := 28) rfl rfl ?_
              refine z_lv (lv2 := [(0, _), (1, _), (2, _), (3, _), (4, _), (5, _), (6, _), (7, _)]) ⟨rfl, rfl, rfl, rfl, rfl, rfl, rfl, rfl, trivial⟩ ?_
              exact ih _ _ _ (by omega) (by omega) (by omega) (by omega)
            ·
              refine z_iload (pc2 := 116) rfl rfl rfl ?_
              refine z_iconst (pc2 := 117) rfl rfl ?_
              refine z_icmp_eq (t := 138) (pc2 := 120) rfl rfl rfl (by omega) (by omega) (fun c51 => ?_) (fun c51 => by exfalso; omega)
              refine z_iconst (pc2 := 139) rfl rfl ?_
              refine z_goto (pc2 := 143) rfl rfl ?_
              refine z_istore (lv2 := [(10, _), (9, _), (8, _), (0, _), (1, _), (2, _), (3, _), (4, _), (5, _), (6, _), (7, _)]) (pc2 := 145) rfl rfl rfl rfl ?_
              refine z_iload (pc2 := 147) rfl rfl rfl ?_
              refine z_if_eq (t := 165) (pc2 := 150) rfl rfl rfl (by omega) (fun c52 => by exfalso; omega) (fun c52 => ?_)
              refine z_iload (pc2 := 152) rfl rfl rfl ?_
              refine z_iload (pc2 := 154) rfl rfl rfl ?_
              refine z_icmp_le (t := 165) (pc2 := 157) rfl rfl rfl (by omega) (by omega) (fun c53 => ?_) (fun c53 => ?_)
              ·
                refine z_iinc (lv2 := [(7, _), (10, _), (9, _), (8, _), (0, _), (1, _), (2, _), (3, _), (4, _), (5, _), (6, _)]) (pc2 := 168) rfl rfl rfl rfl rfl ?_
                refine z_goto (pc2 := 28) rfl rfl ?_
                refine z_lv (lv2 := [(0, _), (1, _), (2, _), (3, _), (4, _), (5, _), (6, _), (7, _)]) ⟨rfl, rfl, rfl, rfl, rfl, rfl, rfl, rfl, trivial⟩ ?_
                exact ih _ _ _ (by omega) (by omega) (by omega) (by omega)
              ·
                refine z_iload (pc2 := 159) rfl rfl rfl ?_
                refine z_istore (lv2 := [(5, _), (10, _), (9, _), (8, _), (0, _), (1, _), (2, _), (3, _), (4, _), (6, _), (7, _)]) (pc2 := 161) rfl rfl rfl rfl ?_
                refine z_iload (pc2 := 163) rfl rfl rfl ?_
                refine z_istore (lv2 := [(6, _), (5, _), (10, _), (9, _), (8, _), (0, _), (1, _), (2, _), (3, _), (4, _), (7, _)]) (pc2 := 165) rfl rfl rfl rfl ?_
                refine z_iinc (lv2 := [(7, _), (6, _), (5, _), (10, _), (9, _), (8, _), (0, _), (1, _), (2, _), (3, _), (4, _)]) (pc2 := 168) rfl rfl rfl rfl rfl ?_
                refine z_goto (pc2 := 28) rfl rfl ?_
                refine z_lv (lv2 := [(0, _), (1, _), (2, _), (3, _), (4, _), (5, _), (6, _), (7, _)]) ⟨rfl, rfl, rfl, rfl, rfl, rfl, rfl, rfl, trivial⟩ ?_
                exact ih _ _ _ (by omega) (by omega) (by omega) (by omega)
set_option maxHeartbeats 8000000 in
theorem m_joinAt {L : Nat} {xs : Nat → Int32} {n sl : Nat} {T : Nat → zT} {I : Nat → Nat → Int} {P : Nat → Nat → Option Nat} {G : Nat → Nat → Int} {K : List zV → zH → Prop} {p f i : Int} (hT : ∀ a, 56 ≤ a → a ≤ 90 → T a = zFix a) (hp : 0 ≤ p ∧ p ≤ 11) (hf : 0 ≤ f ∧ f ≤ 3) (hi : 0 ≤ i ∧ i ≤ 39) (hK : ∀ e, -4 ≤ e ∧ e ≤ 5 → K [.inl e] (n, sl, T, I, P, G)) : zX zMd L xs 224 [.inr (.inl (some 56)), .inl p, .inl f, .inl i] (n, sl, T, I, P, G) K := by
  have t56 : T 56 = (1, 12, [1]) := hT 56 (by decide) (by decide)
  have t77 : T 77 = (2, 0, [24, 6]) := hT 77 (by decide) (by decide)
  refine z_inl ?_
  refine z_lv (lv2 := [(0, _), (1, _), (2, _), (3, _)]) ⟨rfl, rfl, rfl, rfl, trivial⟩ ?_
  refine z_aload_n (pc2 := 1) rfl rfl rfl ?_
  refine z_getP (pc2 := 4) rfl rfl rfl rfl t56 ?_
  intro p1 p1e p1k; replace p1k : p1 = some 77 := p1k; clear p1e; subst p1k
  refine z_bipush (pc2 := 6) rfl rfl (by decide) ?_
  refine z_aload_n (pc2 := 7) rfl rfl rfl ?_
  refine z_getI (pc2 := 10) 0 rfl rfl rfl rfl rfl t56 ?_
  intro v2 e2 r2 k2
  clear e2
  replace k2 : (0 : Int) ≤ v2 ∧ v2 ≤ 1 := k2; clear r2
  refine z_imul (pc2 := 11) rfl rfl ?_
  refine z_iload_n (pc2 := 12) rfl rfl rfl ?_
  refine z_iadd (pc2 := 13) rfl rfl ?_
  refine z_iald (pc2 := 14) rfl rfl t77 (by omega) (by omega) (by decide) ?_
  intro v3 e3 r3 k3
  clear e3
  replace k3 : (-1 : Int) ≤ v3 ∧ v3 ≤ 40 := k3; clear r3
  refine z_iload_n (pc2 := 15) rfl rfl rfl ?_
  refine z_isub (pc2 := 16) rfl rfl ?_
  refine z_istore (lv2 := [(4, _), (0, _), (1, _), (2, _), (3, _)]) (pc2 := 18) rfl rfl rfl rfl ?_
  refine z_bipush (pc2 := 20) rfl rfl (by decide) ?_
  refine z_istore (lv2 := [(5, _), (4, _), (0, _), (1, _), (2, _), (3, _)]) (pc2 := 22) rfl rfl rfl rfl ?_
  refine z_iconst (pc2 := 23) rfl rfl ?_
  refine z_istore (lv2 := [(6, _), (5, _), (4, _), (0, _), (1, _), (2, _), (3, _)]) (pc2 := 25) rfl rfl rfl rfl ?_
  refine z_iconst (pc2 := 26) rfl rfl ?_
  refine z_istore (lv2 := [(7, _), (6, _), (5, _), (4, _), (0, _), (1, _), (2, _), (3, _)]) (pc2 := 28) rfl rfl rfl rfl ?_
  refine z_lv (lv2 := [(0, _), (1, _), (2, _), (3, _), (4, _), (5, _), (6, _), (7, _)]) ⟨rfl, rfl, rfl, rfl, rfl, rfl, rfl, rfl, trivial⟩ ?_
  exact l_joinAt hT (by omega) (by omega) (by omega) (by omega) (by omega) hK _ _ _ _ (by omega) (by omega) (by omega)   (Nat.lt_succ_self _)
set_option maxHeartbeats 8000000 in
theorem l_reads {L : Nat} {xs : Nat → Int32} {n sl : Nat} {T : Nat → zT} {I : Nat → Nat → Int} {P : Nat → Nat → Option Nat} {K : List zV → zH → Prop} {p f s w : Int} (hT : ∀ a, 56 ≤ a → a ≤ 90 → T a = zFix a) (hp : 0 ≤ p ∧ p ≤ 11) (hf : 0 ≤ f ∧ f ≤ 3) (hs : -1 ≤ s ∧ s ≤ 40) (hw : -1 ≤ w ∧ w ≤ 24) (hK : ∀ e I2 G2, (0 ≤ e ∧ e ≤ 3) → zFr I I2 → zQt I I2 → K [.inl e] (n, sl, T, I2, P, G2)) (m : Nat) : ∀ (I2 : Nat → Nat → Int) (G2 : Nat → Nat → Int), ∀ (i k : Int), 0 ≤ i ∧ i ≤ 42 → 0 ≤ k ∧ k ≤ 40 → zFr I I2 → I2 56 28 = k → k ≤ i → zQt I I2 → (42 - i).toNat < m → zB zMd L xs 226 35 [(0, .inr (.inl (some 56))), (1, .inl p), (2, .inl f), (3, .inl s), (4, .inl w), (5, .inl i)] [] (n, sl, T, I2, P, G2) K := by
  have t56 : T 56 = (1, 12, [1]) := hT 56 (by decide) (by decide)
  have t61 : T 61 = (2, 0, [8, 2]) := hT 61 (by decide) (by decide)
  have t68 : T 68 = (2, 0, [48, 5]) := hT 68 (by decide) (by decide)
  have t77 : T 77 = (2, 0, [24, 6]) := hT 77 (by decide) (by decide)
  have t78 : T 78 = (2, 0, [960, 7]) := hT 78 (by decide) (by decide)
  have t80 : T 80 = (2, 0, [40, 0]) := hT 80 (by decide) (by decide)
  have t81 : T 81 = (2, 0, [40, 8]) := hT 81 (by decide) (by decide)
  induction m with
  | zero => intro I2 G2 i k hi hk hI2 hk2 hk3 hqt hm; omega
  | succ m ih =>
    intro I2 G2 i k hi hk hI2 hk2 hk3 hqt hm
    refine z_iload (pc2 := 37) rfl rfl rfl ?_
    refine z_iload_n (pc2 := 38) rfl rfl rfl ?_
    refine z_icmp_ge (t := 373) (pc2 := 41) rfl rfl rfl (by omega) (by omega) (fun c1 => ?_) (fun c1 => ?_)
    ·
      refine z_iconst (pc2 := 374) rfl rfl ?_
      refine z_iret rfl rfl ?_
      exact hK _ _ _ (by omega) (by repeat (first | exact zFr_rf _ | assumption | refine zFr_a ?_ (by decide) | refine zFr_f ?_ (by decide) | refine zFr_n ?_ (by omega) | refine zFr_h ?_ (by omega) | refine zFr_tok ?_ (by omega))) (by repeat (first | exact zQt_rf _ | assumption | refine zQt_a ?_ (by decide) | refine zQt_f ?_ (by decide)))
    ·
      refine z_aload_n (pc2 := 42) rfl rfl rfl ?_
      refine z_iload_n (pc2 := 43) rfl rfl rfl ?_
      refine z_iload (pc2 := 45) rfl rfl rfl ?_
      refine z_callV (y2 := 221) (as := [_, _]) (rest := []) (pc2 := 48) rfl rfl rfl rfl t56 rfl ?_
      refine z_inl ?_
      refine z_lv (lv2 := [(0, _), (1, _), (2, _)]) ⟨rfl, rfl, rfl, trivial⟩ ?_
      refine z_aload_n (pc2 := 1) rfl rfl rfl ?_
      refine z_getP (pc2 := 4) rfl rfl rfl rfl t56 ?_
      intro p2 p2e p2k; replace p2k : p2 = some 78 := p2k; clear p2e; subst p2k
      refine z_bipush (pc2 := 6) rfl rfl (by decide) ?_
      refine z_bipush (pc2 := 8) rfl rfl (by decide) ?_
      refine z_aload_n (pc2 := 9) rfl rfl rfl ?_
      refine z_getI (pc2 := 12) 0 rfl rfl rfl rfl rfl t56 ?_
      intro v3 e3 r3 k3
      replace k3 : (0 : Int) ≤ v3 ∧ v3 ≤ 1 := k3; clear r3
      refine z_imul (pc2 := 13) rfl rfl ?_
      refine z_iload_n (pc2 := 14) rfl rfl rfl ?_
      refine z_iadd (pc2 := 15) rfl rfl ?_
      refine z_imul (pc2 := 16) rfl rfl ?_
      refine z_iload_n (pc2 := 17) rfl rfl rfl ?_
      refine z_iadd (pc2 := 18) rfl rfl ?_
      refine z_iald (pc2 := 19) rfl rfl t78 (by omega) (by omega) (by decide) ?_
      intro v4 e4 r4 k4
      replace k4 : (0 : Int) ≤ v4 ∧ v4 ≤ 127 := k4; clear r4
      refine z_iret rfl rfl ?_
      show zB _ _ _ _ _ _ [_] _ _
      refine z_istore (lv2 := [(6, _), (0, _), (1, _), (2, _), (3, _), (4, _), (5, _)]) (pc2 := 50) rfl rfl rfl rfl ?_
      refine z_aload_n (pc2 := 51) rfl rfl rfl ?_
      refine z_iload_n (pc2 := 52) rfl rfl rfl ?_
      refine z_iload_n (pc2 := 53) rfl rfl rfl ?_
      refine z_iload (pc2 := 55) rfl rfl rfl ?_
      refine z_callV (y2 := 224) (as := [_, _, _]) (rest := []) (pc2 := 58) rfl rfl rfl rfl t56 rfl ?_
      refine m_joinAt hT (by omega) (by omega) (by omega) (fun w5 w5r => ?_)
      show zB _ _ _ _ _ _ [_] _ _
      refine z_istore (lv2 := [(7, _), (6, _), (0, _), (1, _), (2, _), (3, _), (4, _), (5, _)]) (pc2 := 60) rfl rfl rfl rfl ?_
      refine z_iconst (pc2 := 61) rfl rfl ?_
      refine z_istore (lv2 := [(8, _), (7, _), (6, _), (0, _), (1, _), (2, _), (3, _), (4, _), (5, _)]) (pc2 := 63) rfl rfl rfl rfl ?_
      refine z_iload (pc2 := 65) rfl rfl rfl ?_
      refine z_bipush (pc2 := 67) rfl rfl (by decide) ?_
      refine z_icmp_eq (t := 77) (pc2 := 70) rfl rfl rfl (by omega) (by omega) (fun c6 => ?_) (fun c6 => ?_)
      ·
        refine z_aload_n (pc2 := 78) rfl rfl rfl ?_
        refine z_iload (pc2 := 80) rfl rfl rfl ?_
        refine z_bipush (pc2 := 82) rfl rfl (by decide) ?_
        refine z_icmp_ne (t := 89) (pc2 := 85) rfl rfl rfl (by omega) (by omega) (fun c7 => by exfalso; omega) (fun c7 => ?_)
        refine z_iconst (pc2 := 86) rfl rfl ?_
        refine z_goto (pc2 := 90) rfl rfl ?_
        refine z_iload (pc2 := 92) rfl rfl rfl ?_
        refine z_bipush (pc2 := 94) rfl rfl (by decide) ?_
        refine z_icmp_ne (t := 101) (pc2 := 97) rfl rfl rfl (by omega) (by omega) (fun c8 => by exfalso; omega) (fun c8 => ?_)
        refine z_iconst (pc2 := 98) rfl rfl ?_
        refine z_goto (pc2 := 102) rfl rfl ?_
        refine z_iload_n (pc2 := 103) rfl rfl rfl ?_
        refine z_iconst (pc2 := 104) rfl rfl ?_
        refine z_callS (y2 := 170) (as := [_, _, _]) (rest := [_, _]) (pc2 := 107) rfl rfl rfl rfl ?_
        refine m_sort (by omega) (by omega) (by omega) (by omega) (by omega) (fun w9 w9r w9g => ?_)
        show zB _ _ _ _ _ _ [_, _, _] _ _
        refine z_callV (y2 := 225) (as := [_, _]) (rest := []) (pc2 := 110) rfl rfl rfl rfl t56 rfl ?_
        refine z_inl ?_
        refine z_lv (lv2 := [(0, _), (1, _), (2, _)]) ⟨rfl, rfl, rfl, trivial⟩ ?_
        refine z_aload_n (pc2 := 1) rfl rfl rfl ?_
        refine z_getP (pc2 := 4) rfl rfl rfl rfl t56 ?_
        intro p10 p10e p10k; replace p10k : p10 = some 80 := p10k; clear p10e; subst p10k
        refine z_aload_n (pc2 := 5) rfl rfl rfl ?_
        refine z_getI (pc2 := 8) 0 rfl rfl rfl rfl rfl t56 ?_
        intro v11 e11 r11 k11
        replace k11 : (0 : Int) ≤ v11 ∧ v11 ≤ 40 := k11; clear r11
        replace e11 : k = v11 := by rw [e11]; first | exact hk2 | exact Eq.symm hk2 | (simp [zU]; first | done | exact hk2 | exact Eq.symm hk2 | omega)
        subst e11
        refine z_iload_n (pc2 := 9) rfl rfl rfl ?_
        refine z_iast (pc2 := 10) rfl rfl t80 (by omega) (by omega) (by decide) (by omega) True.intro ?_
        refine z_aload_n (pc2 := 11) rfl rfl rfl ?_
        refine z_getP (pc2 := 14) rfl rfl rfl rfl t56 ?_
        intro p12 p12e p12k; replace p12k : p12 = some 81 := p12k; clear p12e; subst p12k
        refine z_aload_n (pc2 := 15) rfl rfl rfl ?_
        refine z_getI (pc2 := 18) 0 rfl rfl rfl rfl rfl t56 ?_
        intro v13 e13 r13 k13
        replace k13 : (0 : Int) ≤ v13 ∧ v13 ≤ 40 := k13; clear r13
        replace e13 : k = v13 := by rw [e13]; first | exact hk2 | exact Eq.symm hk2 | (simp [zU]; first | done | exact hk2 | exact Eq.symm hk2 | omega)
        subst e13
        refine z_iload_n (pc2 := 19) rfl rfl rfl ?_
        refine z_iast (pc2 := 20) rfl rfl t81 (by omega) (by omega) (by decide) (by omega) (by show zGd _; first | assumption | exact zGd_0 | (unfold zGd; refine ⟨⟨?_, ?_⟩, ⟨?_, ?_⟩, ?_⟩ <;> omega)) ?_
        refine z_aload_n (pc2 := 21) rfl rfl rfl ?_
        refine z_dup (pc2 := 22) rfl rfl rfl ?_
        refine z_getI (pc2 := 25) 0 rfl rfl rfl rfl rfl t56 ?_
        intro v14 e14 r14 k14
        replace k14 : (0 : Int) ≤ v14 ∧ v14 ≤ 40 := k14; clear r14
        replace e14 : k = v14 := by rw [e14]; first | exact hk2 | exact Eq.symm hk2 | (simp [zU]; first | done | exact hk2 | exact Eq.symm hk2 | omega)
        subst e14
        refine z_iconst (pc2 := 26) rfl rfl ?_
        refine z_iadd (pc2 := 27) rfl rfl ?_
        refine z_putI (pc2 := 30) rfl rfl rfl rfl rfl rfl t56 (by omega) (by show (0 : Int) ≤ _ ∧ _ ≤ 40; omega) ?_
        refine z_ret rfl rfl ?_
        show zB _ _ _ _ _ _ [] _ _
        refine z_goto (pc2 := 363) rfl rfl ?_
        refine z_iload (pc2 := 365) rfl rfl rfl ?_
        refine z_iload (pc2 := 367) rfl rfl rfl ?_
        refine z_iadd (pc2 := 368) rfl rfl ?_
        refine z_istore (lv2 := [(5, _), (8, _), (7, _), (6, _), (0, _), (1, _), (2, _), (3, _), (4, _)]) (pc2 := 370) rfl rfl rfl rfl ?_
        refine z_goto (pc2 := 35) rfl rfl ?_
        refine z_lv (lv2 := [(0, _), (1, _), (2, _), (3, _), (4, _), (5, _)]) ⟨rfl, rfl, rfl, rfl, rfl, rfl, trivial⟩ ?_
        exact ih _ _ _ _ (by omega) (by omega) (by repeat (first | exact zFr_rf _ | assumption | refine zFr_a ?_ (by decide) | refine zFr_f ?_ (by decide) | refine zFr_n ?_ (by omega) | refine zFr_h ?_ (by omega) | refine zFr_tok ?_ (by omega))) (zU_same _ _ _ _) (by omega) (by repeat (first | exact zQt_rf _ | assumption | refine zQt_a ?_ (by decide) | refine zQt_f ?_ (by decide))) (by omega)
      ·
        refine z_iload (pc2 := 72) rfl rfl rfl ?_
        refine z_bipush (pc2 := 74) rfl rfl (by decide) ?_
        refine z_icmp_ne (t := 113) (pc2 := 77) rfl rfl rfl (by omega) (by omega) (fun c15 => ?_) (fun c15 => ?_)
        ·
          refine z_iload (pc2 := 115) rfl rfl rfl ?_
          refine z_bipush (pc2 := 117) rfl rfl (by decide) ?_
          refine z_icmp_ne (t := 143) (pc2 := 120) rfl rfl rfl (by omega) (by omega) (fun c16 => ?_) (fun c16 => ?_)
          ·
            refine z_iload (pc2 := 145) rfl rfl rfl ?_
            refine z_i2l (pc2 := 146) rfl rfl (by omega) ?_
            refine z_ldc2 (64) (pc2 := 149) rfl rfl rfl ?_
            refine z_ldc2 (75) (pc2 := 152) rfl rfl rfl ?_
            refine z_callS (y2 := 157) (as := [_, _, _]) (rest := []) (pc2 := 155) rfl rfl rfl rfl ?_
            refine m_in (by omega) (by omega) (by omega) (fun e17 e17a e17b e17c => ?_)
            show zB _ _ _ _ _ _ [_] _ _
            refine z_if_eq (t := 172) (pc2 := 158) rfl rfl rfl (by omega) (fun c18 => ?_) (fun c18 => ?_)
            ·
              refine z_iload (pc2 := 174) rfl rfl rfl ?_
              refine z_i2l (pc2 := 175) rfl rfl (by omega) ?_
              refine z_ldc2 (96) (pc2 := 178) rfl rfl rfl ?_
              refine z_ldc2 (99) (pc2 := 181) rfl rfl rfl ?_
              refine z_callS (y2 := 157) (as := [_, _, _]) (rest := []) (pc2 := 184) rfl rfl rfl rfl ?_
              refine m_in (by omega) (by omega) (by omega) (fun e19 e19a e19b e19c => ?_)
              show zB _ _ _ _ _ _ [_] _ _
              refine z_if_eq (t := 205) (pc2 := 187) rfl rfl rfl (by omega) (fun c20 => ?_) (fun c20 => ?_)
              ·
                refine z_iload (pc2 := 207) rfl rfl rfl ?_
                refine z_bipush (pc2 := 209) rfl rfl (by decide) ?_
                refine z_icmp_ne (t := 296) (pc2 := 212) rfl rfl rfl (by omega) (by omega) (fun c21 => ?_) (fun c21 => ?_)
                ·
                  refine z_iload (pc2 := 298) rfl rfl rfl ?_
                  refine z_if_lt (t := 342) (pc2 := 301) rfl rfl rfl (by omega) (fun c22 => ?_) (fun c22 => ?_)
                  ·
                    refine z_iload (pc2 := 344) rfl rfl rfl ?_
                    refine z_iload (pc2 := 346) rfl rfl rfl ?_
                    refine z_icmp_lt (t := 351) (pc2 := 349) rfl rfl rfl (by omega) (by omega) (fun c23 => ?_) (fun c23 => ?_)
                    ·
                      refine z_aload_n (pc2 := 352) rfl rfl rfl ?_
                      refine z_iconst (pc2 := 353) rfl rfl ?_
                      refine z_iconst (pc2 := 354) rfl rfl ?_
                      refine z_iload_n (pc2 := 355) rfl rfl rfl ?_
                      refine z_iload (pc2 := 357) rfl rfl rfl ?_
                      refine z_callS (y2 := 170) (as := [_, _, _]) (rest := [_, _]) (pc2 := 360) rfl rfl rfl rfl ?_
                      refine m_sort (by omega) (by omega) (by omega) (by omega) (by omega) (fun w24 w24r w24g => ?_)
                      show zB _ _ _ _ _ _ [_, _, _] _ _
                      refine z_callV (y2 := 225) (as := [_, _]) (rest := []) (pc2 := 363) rfl rfl rfl rfl t56 rfl ?_
                      refine z_inl ?_
                      refine z_lv (lv2 := [(0, _), (1, _), (2, _)]) ⟨rfl, rfl, rfl, trivial⟩ ?_
                      refine z_aload_n (pc2 := 1) rfl rfl rfl ?_
                      refine z_getP (pc2 := 4) rfl rfl rfl rfl t56 ?_
                      intro p25 p25e p25k; replace p25k : p25 = some 80 := p25k; clear p25e; subst p25k
                      refine z_aload_n (pc2 := 5) rfl rfl rfl ?_
                      refine z_getI (pc2 := 8) 0 rfl rfl rfl rfl rfl t56 ?_
                      intro v26 e26 r26 k26
                      replace k26 : (0 : Int) ≤ v26 ∧ v26 ≤ 40 := k26; clear r26
                      replace e26 : k = v26 := by rw [e26]; first | exact hk2 | exact Eq.symm hk2 | (simp [zU]; first | done | exact hk2 | exact Eq.symm hk2 | omega)
                      subst e26
                      refine z_iload_n (pc2 := 9) rfl rfl rfl ?_
                      refine z_iast (pc2 := 10) rfl rfl t80 (by omega) (by omega) (by decide) (by omega) True.intro ?_
                      refine z_aload_n (pc2 := 11) rfl rfl rfl ?_
                      refine z_getP (pc2 := 14) rfl rfl rfl rfl t56 ?_
                      intro p27 p27e p27k; replace p27k : p27 = some 81 := p27k; clear p27e; subst p27k
                      refine z_aload_n (pc2 := 15) rfl rfl rfl ?_
                      refine z_getI (pc2 := 18) 0 rfl rfl rfl rfl rfl t56 ?_
                      intro v28 e28 r28 k28
                      replace k28 : (0 : Int) ≤ v28 ∧ v28 ≤ 40 := k28; clear r28
                      replace e28 : k = v28 := by rw [e28]; first | exact hk2 | exact Eq.symm hk2 | (simp [zU]; first | done | exact hk2 | exact Eq.symm hk2 | omega)
                      subst e28
                      refine z_iload_n (pc2 := 19) rfl rfl rfl ?_
                      refine z_iast (pc2 := 20) rfl rfl t81 (by omega) (by omega) (by decide) (by omega) (by show zGd _; first | assumption | exact zGd_0 | (unfold zGd; refine ⟨⟨?_, ?_⟩, ⟨?_, ?_⟩, ?_⟩ <;> omega)) ?_
                      refine z_aload_n (pc2 := 21) rfl rfl rfl ?_
                      refine z_dup (pc2 := 22) rfl rfl rfl ?_
                      refine z_getI (pc2 := 25) 0 rfl rfl rfl rfl rfl t56 ?_
                      intro v29 e29 r29 k29
                      replace k29 : (0 : Int) ≤ v29 ∧ v29 ≤ 40 := k29; clear r29
                      replace e29 : k = v29 := by rw [e29]; first | exact hk2 | exact Eq.symm hk2 | (simp [zU]; first | done | exact hk2 | exact Eq.symm hk2 | omega)
                      subst e29
                      refine z_iconst (pc2 := 26) rfl rfl ?_
                      refine z_iadd (pc2 := 27) rfl rfl ?_
                      refine z_putI (pc2 := 30) rfl rfl rfl rfl rfl rfl t56 (by omega) (by show (0 : Int) ≤ _ ∧ _ ≤ 40; omega) ?_
                      refine z_ret rfl rfl ?_
                      show zB _ _ _ _ _ _ [] _ _
                      refine z_iload (pc2 := 365) rfl rfl rfl ?_
                      refine z_iload (pc2 := 367) rfl rfl rfl ?_
                      refine z_iadd (pc2 := 368) rfl rfl ?_
                      refine z_istore (lv2 := [(5, _), (8, _), (7, _), (6, _), (0, _), (1, _), (2, _), (3, _), (4, _)]) (pc2 := 370) rfl rfl rfl rfl ?_
                      refine z_goto (pc2 := 35) rfl rfl ?_
                      refine z_lv (lv2 := [(0, _), (1, _), (2, _), (3, _), (4, _), (5, _)]) ⟨rfl, rfl, rfl, rfl, rfl, rfl, trivial⟩ ?_
                      exact ih _ _ _ _ (by omega) (by omega) (by repeat (first | exact zFr_rf _ | assumption | refine zFr_a ?_ (by decide) | refine zFr_f ?_ (by decide) | refine zFr_n ?_ (by omega) | refine zFr_h ?_ (by omega) | refine zFr_tok ?_ (by omega))) (zU_same _ _ _ _) (by omega) (by repeat (first | exact zQt_rf _ | assumption | refine zQt_a ?_ (by decide) | refine zQt_f ?_ (by decide))) (by omega)
                    ·
                      refine z_iconst (pc2 := 350) rfl rfl ?_
                      refine z_iret rfl rfl ?_
                      exact hK _ _ _ (by omega) (by repeat (first | exact zFr_rf _ | assumption | refine zFr_a ?_ (by decide) | refine zFr_f ?_ (by decide) | refine zFr_n ?_ (by omega) | refine zFr_h ?_ (by omega) | refine zFr_tok ?_ (by omega))) (by repeat (first | exact zQt_rf _ | assumption | refine zQt_a ?_ (by decide) | refine zQt_f ?_ (by decide)))
                  ·
                    refine z_aload_n (pc2 := 302) rfl rfl rfl ?_
                    refine z_iconst (pc2 := 303) rfl rfl ?_
                    refine z_iconst (pc2 := 304) rfl rfl ?_
                    refine z_iload_n (pc2 := 305) rfl rfl rfl ?_
                    refine z_iload (pc2 := 307) rfl rfl rfl ?_
                    refine z_callS (y2 := 170) (as := [_, _, _]) (rest := [_, _]) (pc2 := 310) rfl rfl rfl rfl ?_
                    refine m_sort (by omega) (by omega) (by omega) (by omega) (by omega) (fun w30 w30r w30g => ?_)
                    show zB _ _ _ _ _ _ [_, _, _] _ _
                    refine z_callV (y2 := 225) (as := [_, _]) (rest := []) (pc2 := 313) rfl rfl rfl rfl t56 rfl ?_
                    refine z_inl ?_
                    refine z_lv (lv2 := [(0, _), (1, _), (2, _)]) ⟨rfl, rfl, rfl, trivial⟩ ?_
                    refine z_aload_n (pc2 := 1) rfl rfl rfl ?_
                    refine z_getP (pc2 := 4) rfl rfl rfl rfl t56 ?_
                    intro p31 p31e p31k; replace p31k : p31 = some 80 := p31k; clear p31e; subst p31k
                    refine z_aload_n (pc2 := 5) rfl rfl rfl ?_
                    refine z_getI (pc2 := 8) 0 rfl rfl rfl rfl rfl t56 ?_
                    intro v32 e32 r32 k32
                    replace k32 : (0 : Int) ≤ v32 ∧ v32 ≤ 40 := k32; clear r32
                    replace e32 : k = v32 := by rw [e32]; first | exact hk2 | exact Eq.symm hk2 | (simp [zU]; first | done | exact hk2 | exact Eq.symm hk2 | omega)
                    subst e32
                    refine z_iload_n (pc2 := 9) rfl rfl rfl ?_
                    refine z_iast (pc2 := 10) rfl rfl t80 (by omega) (by omega) (by decide) (by omega) True.intro ?_
                    refine z_aload_n (pc2 := 11) rfl rfl rfl ?_
                    refine z_getP (pc2 := 14) rfl rfl rfl rfl t56 ?_
                    intro p33 p33e p33k; replace p33k : p33 = some 81 := p33k; clear p33e; subst p33k
                    refine z_aload_n (pc2 := 15) rfl rfl rfl ?_
                    refine z_getI (pc2 := 18) 0 rfl rfl rfl rfl rfl t56 ?_
                    intro v34 e34 r34 k34
                    replace k34 : (0 : Int) ≤ v34 ∧ v34 ≤ 40 := k34; clear r34
                    replace e34 : k = v34 := by rw [e34]; first | exact hk2 | exact Eq.symm hk2 | (simp [zU]; first | done | exact hk2 | exact Eq.symm hk2 | omega)
                    subst e34
                    refine z_iload_n (pc2 := 19) rfl rfl rfl ?_
                    refine z_iast (pc2 := 20) rfl rfl t81 (by omega) (by omega) (by decide) (by omega) (by show zGd _; first | assumption | exact zGd_0 | (unfold zGd; refine ⟨⟨?_, ?_⟩, ⟨?_, ?_⟩, ?_⟩ <;> omega)) ?_
                    refine z_aload_n (pc2 := 21) rfl rfl rfl ?_
                    refine z_dup (pc2 := 22) rfl rfl rfl ?_
                    refine z_getI (pc2 := 25) 0 rfl rfl rfl rfl rfl t56 ?_
                    intro v35 e35 r35 k35
                    replace k35 : (0 : Int) ≤ v35 ∧ v35 ≤ 40 := k35; clear r35
                    replace e35 : k = v35 := by rw [e35]; first | exact hk2 | exact Eq.symm hk2 | (simp [zU]; first | done | exact hk2 | exact Eq.symm hk2 | omega)
                    subst e35
                    refine z_iconst (pc2 := 26) rfl rfl ?_
                    refine z_iadd (pc2 := 27) rfl rfl ?_
                    refine z_putI (pc2 := 30) rfl rfl rfl rfl rfl rfl t56 (by omega) (by show (0 : Int) ≤ _ ∧ _ ≤ 40; omega) ?_
                    refine z_ret rfl rfl ?_
                    show zB _ _ _ _ _ _ [] _ _
                    refine z_aload_n (pc2 := 314) rfl rfl rfl ?_
                    refine z_getP (pc2 := 317) rfl rfl rfl rfl t56 ?_
                    intro p36 p36e p36k; replace p36k : p36 = some 68 := p36k; clear p36e; subst p36k
                    refine z_bipush (pc2 := 319) rfl rfl (by decide) ?_
                    refine z_aload_n (pc2 := 320) rfl rfl rfl ?_
                    refine z_iload_n (pc2 := 321) rfl rfl rfl ?_
                    refine z_callV (y2 := 163) (as := [_]) (rest := [_, _]) (pc2 := 324) rfl rfl rfl rfl t56 rfl ?_
                    refine z_inl ?_
                    refine z_lv (lv2 := [(0, _), (1, _)]) ⟨rfl, rfl, trivial⟩ ?_
                    refine z_iconst (pc2 := 1) rfl rfl ?_
                    refine z_aload_n (pc2 := 2) rfl rfl rfl ?_
                    refine z_getI (pc2 := 5) 0 rfl rfl rfl rfl rfl t56 ?_
                    intro v37 e37 r37 k37
                    replace k37 : (0 : Int) ≤ v37 ∧ v37 ≤ 1 := k37; clear r37
                    replace e37 : v3 = v37 := by rw [e37]; first | exact e3 | exact Eq.symm e3 | (simp [zU]; first | done | exact e3 | exact Eq.symm e3 | omega)
                    subst e37
                    refine z_imul (pc2 := 6) rfl rfl ?_
                    refine z_iload_n (pc2 := 7) rfl rfl rfl ?_
                    refine z_iadd (pc2 := 8) rfl rfl ?_
                    refine z_iret rfl rfl ?_
                    show zB _ _ _ _ _ _ [_, _, _] _ _
                    refine z_imul (pc2 := 325) rfl rfl ?_
                    refine z_iload (pc2 := 327) rfl rfl rfl ?_
                    refine z_iadd (pc2 := 328) rfl rfl ?_
                    refine z_iald (pc2 := 329) rfl rfl t68 (by omega) (by omega) (by decide) ?_
                    intro v38 e38 r38 k38
                    clear e38
                    replace k38 : (-1 : Int) ≤ v38 ∧ v38 ≤ 23 := k38; clear r38
                    refine z_if_ge (t := 336) (pc2 := 332) rfl rfl rfl (by omega) (fun c39 => ?_) (fun c39 => ?_)
                    ·
                      refine z_iconst (pc2 := 337) rfl rfl ?_
                      refine z_istore (lv2 := [(8, _), (7, _), (6, _), (0, _), (1, _), (2, _), (3, _), (4, _), (5, _)]) (pc2 := 339) rfl rfl rfl rfl ?_
                      refine z_goto (pc2 := 363) rfl rfl ?_
                      refine z_iload (pc2 := 365) rfl rfl rfl ?_
                      refine z_iload (pc2 := 367) rfl rfl rfl ?_
                      refine z_iadd (pc2 := 368) rfl rfl ?_
                      refine z_istore (lv2 := [(5, _), (8, _), (7, _), (6, _), (0, _), (1, _), (2, _), (3, _), (4, _)]) (pc2 := 370) rfl rfl rfl rfl ?_
                      refine z_goto (pc2 := 35) rfl rfl ?_
                      refine z_lv (lv2 := [(0, _), (1, _), (2, _), (3, _), (4, _), (5, _)]) ⟨rfl, rfl, rfl, rfl, rfl, rfl, trivial⟩ ?_
                      exact ih _ _ _ _ (by omega) (by omega) (by repeat (first | exact zFr_rf _ | assumption | refine zFr_a ?_ (by decide) | refine zFr_f ?_ (by decide) | refine zFr_n ?_ (by omega) | refine zFr_h ?_ (by omega) | refine zFr_tok ?_ (by omega))) (zU_same _ _ _ _) (by omega) (by repeat (first | exact zQt_rf _ | assumption | refine zQt_a ?_ (by decide) | refine zQt_f ?_ (by decide))) (by omega)
                    ·
                      refine z_iconst (pc2 := 333) rfl rfl ?_
                      refine z_goto (pc2 := 337) rfl rfl ?_
                      refine z_istore (lv2 := [(8, _), (7, _), (6, _), (0, _), (1, _), (2, _), (3, _), (4, _), (5, _)]) (pc2 := 339) rfl rfl rfl rfl ?_
                      refine z_goto (pc2 := 363) rfl rfl ?_
                      refine z_iload (pc2 := 365) rfl rfl rfl ?_
                      refine z_iload (pc2 := 367) rfl rfl rfl ?_
                      refine z_iadd (pc2 := 368) rfl rfl ?_
                      refine z_istore (lv2 := [(5, _), (8, _), (7, _), (6, _), (0, _), (1, _), (2, _), (3, _), (4, _)]) (pc2 := 370) rfl rfl rfl rfl ?_
                      refine z_goto (pc2 := 35) rfl rfl ?_
                      refine z_lv (lv2 := [(0, _), (1, _), (2, _), (3, _), (4, _), (5, _)]) ⟨rfl, rfl, rfl, rfl, rfl, rfl, trivial⟩ ?_
                      exact ih _ _ _ _ (by omega) (by omega) (by repeat (first | exact zFr_rf _ | assumption | refine zFr_a ?_ (by decide) | refine zFr_f ?_ (by decide) | refine zFr_n ?_ (by omega) | refine zFr_h ?_ (by omega) | refine zFr_tok ?_ (by omega))) (zU_same _ _ _ _) (by omega) (by repeat (first | exact zQt_rf _ | assumption | refine zQt_a ?_ (by decide) | refine zQt_f ?_ (by decide))) (by omega)
                ·
                  refine z_aload_n (pc2 := 213) rfl rfl rfl ?_
                  refine z_iload_n (pc2 := 214) rfl rfl rfl ?_
                  refine z_iload_n (pc2 := 215) rfl rfl rfl ?_
                  refine z_iload (pc2 := 217) rfl rfl rfl ?_
                  refine z_iconst (pc2 := 218) rfl rfl ?_
                  refine z_iadd (pc2 := 219) rfl rfl ?_
                  refine z_callV (y2 := 223) (as := [_, _, _]) (rest := []) (pc2 := 222) rfl rfl rfl rfl t56 rfl ?_
                  refine z_inl ?_
                  refine z_lv (lv2 := [(0, _), (1, _), (2, _), (3, _)]) ⟨rfl, rfl, rfl, rfl, trivial⟩ ?_
                  refine z_iload_n (pc2 := 1) rfl rfl rfl ?_
                  refine z_aload_n (pc2 := 2) rfl rfl rfl ?_
                  refine z_getP (pc2 := 5) rfl rfl rfl rfl t56 ?_
                  intro p40 p40e p40k; replace p40k : p40 = some 77 := p40k; clear p40e; subst p40k
                  refine z_bipush (pc2 := 7) rfl rfl (by decide) ?_
                  refine z_aload_n (pc2 := 8) rfl rfl rfl ?_
                  refine z_getI (pc2 := 11) 0 rfl rfl rfl rfl rfl t56 ?_
                  intro v41 e41 r41 k41
                  replace k41 : (0 : Int) ≤ v41 ∧ v41 ≤ 1 := k41; clear r41
                  replace e41 : v3 = v41 := by rw [e41]; first | exact e3 | exact Eq.symm e3 | (simp [zU]; first | done | exact e3 | exact Eq.symm e3 | omega)
                  subst e41
                  refine z_imul (pc2 := 12) rfl rfl ?_
                  refine z_iload_n (pc2 := 13) rfl rfl rfl ?_
                  refine z_iadd (pc2 := 14) rfl rfl ?_
                  refine z_iald (pc2 := 15) rfl rfl t77 (by omega) (by omega) (by decide) ?_
                  intro v42 e42 r42 k42
                  replace k42 : (-1 : Int) ≤ v42 ∧ v42 ≤ 40 := k42; clear r42
                  refine z_icmp_lt (t := 20) (pc2 := 18) rfl rfl rfl (by omega) (by omega) (fun c43 => ?_) (fun c43 => ?_)
                  ·
                    refine z_aload_n (pc2 := 21) rfl rfl rfl ?_
                    refine z_iload_n (pc2 := 22) rfl rfl rfl ?_
                    refine z_iload_n (pc2 := 23) rfl rfl rfl ?_
                    refine z_callV (y2 := 221) (as := [_, _]) (rest := []) (pc2 := 26) rfl rfl rfl rfl t56 rfl ?_
                    refine z_inl ?_
                    refine z_lv (lv2 := [(0, _), (1, _), (2, _)]) ⟨rfl, rfl, rfl, trivial⟩ ?_
                    refine z_aload_n (pc2 := 1) rfl rfl rfl ?_
                    refine z_getP (pc2 := 4) rfl rfl rfl rfl t56 ?_
                    intro p44 p44e p44k; replace p44k : p44 = some 78 := p44k; clear p44e; subst p44k
                    refine z_bipush (pc2 := 6) rfl rfl (by decide) ?_
                    refine z_bipush (pc2 := 8) rfl rfl (by decide) ?_
                    refine z_aload_n (pc2 := 9) rfl rfl rfl ?_
                    refine z_getI (pc2 := 12) 0 rfl rfl rfl rfl rfl t56 ?_
                    intro v45 e45 r45 k45
                    replace k45 : (0 : Int) ≤ v45 ∧ v45 ≤ 1 := k45; clear r45
                    replace e45 : v3 = v45 := by rw [e45]; first | exact e3 | exact Eq.symm e3 | (simp [zU]; first | done | exact e3 | exact Eq.symm e3 | omega)
                    subst e45
                    refine z_imul (pc2 := 13) rfl rfl ?_
                    refine z_iload_n (pc2 := 14) rfl rfl rfl ?_
                    refine z_iadd (pc2 := 15) rfl rfl ?_
                    refine z_imul (pc2 := 16) rfl rfl ?_
                    refine z_iload_n (pc2 := 17) rfl rfl rfl ?_
                    refine z_iadd (pc2 := 18) rfl rfl ?_
                    refine z_iald (pc2 := 19) rfl rfl t78 (by omega) (by omega) (by decide) ?_
                    intro v46 e46 r46 k46
                    replace k46 : (0 : Int) ≤ v46 ∧ v46 ≤ 127 := k46; clear r46
                    refine z_iret rfl rfl ?_
                    show zB _ _ _ _ _ _ [_] _ _
                    refine z_istore (lv2 := [(4, _), (0, _), (1, _), (2, _), (3, _)]) (pc2 := 28) rfl rfl rfl rfl ?_
                    refine z_iload (pc2 := 30) rfl rfl rfl ?_
                    refine z_callS (y2 := 222) (as := [_]) (rest := []) (pc2 := 33) rfl rfl rfl rfl ?_
                    refine z_inl ?_
                    refine z_lv (lv2 := [(0, _)]) ⟨rfl, trivial⟩ ?_
                    refine z_iload_n (pc2 := 1) rfl rfl rfl ?_
                    refine z_bipush (pc2 := 3) rfl rfl (by decide) ?_
                    refine z_icmp_eq (t := 26) (pc2 := 6) rfl rfl rfl (by omega) (by omega) (fun c47 => ?_) (fun c47 => ?_)
                    ·
                      refine z_iconst (pc2 := 27) rfl rfl ?_
                      refine z_goto (pc2 := 31) rfl rfl ?_
                      refine z_zret rfl rfl (by omega) ?_
                      show zB _ _ _ _ _ _ [_] _ _
                      refine z_if_eq (t := 40) (pc2 := 36) rfl rfl rfl (by omega) (fun c48 => by exfalso; omega) (fun c48 => ?_)
                      refine z_iconst (pc2 := 37) rfl rfl ?_
                      refine z_goto (pc2 := 60) rfl rfl ?_
                      refine z_iret rfl rfl ?_
                      show zB _ _ _ _ _ _ [_] _ _
                      refine z_istore (lv2 := [(9, _), (8, _), (7, _), (6, _), (0, _), (1, _), (2, _), (3, _), (4, _), (5, _)]) (pc2 := 224) rfl rfl rfl rfl ?_
                      refine z_iload (pc2 := 226) rfl rfl rfl ?_
                      refine z_if_eq (t := 234) (pc2 := 229) rfl rfl rfl (by omega) (fun c49 => by exfalso; omega) (fun c49 => ?_)
                      refine z_iload (pc2 := 231) rfl rfl rfl ?_
                      refine z_goto (pc2 := 244) rfl rfl ?_
                      refine z_istore (lv2 := [(9, _), (8, _), (7, _), (6, _), (0, _), (1, _), (2, _), (3, _), (4, _), (5, _)]) (pc2 := 246) rfl rfl rfl rfl ?_
                      refine z_iload (pc2 := 248) rfl rfl rfl ?_
                      refine z_if_eq (t := 254) (pc2 := 251) rfl rfl rfl (by omega) (fun c50 => by exfalso; omega) (fun c50 => ?_)
                      refine z_iload (pc2 := 253) rfl rfl rfl ?_
                      refine z_iret rfl rfl ?_
                      exact hK _ _ _ (by omega) (by repeat (first | exact zFr_rf _ | assumption | refine zFr_a ?_ (by decide) | refine zFr_f ?_ (by decide) | refine zFr_n ?_ (by omega) | refine zFr_h ?_ (by omega) | refine zFr_tok ?_ (by omega))) (by repeat (first | exact zQt_rf _ | assumption | refine zQt_a ?_ (by decide) | refine zQt_f ?_ (by decide)))
                    ·
                      refine z_iload_n (pc2 := 7) rfl rfl rfl ?_
                      refine z_bipush (pc2 := 9) rfl rfl (by decide) ?_
                      refine z_icmp_eq (t := 26) (pc2 := 12) rfl rfl rfl (by omega) (by omega) (fun c51 => ?_) (fun c51 => ?_)
                      ·
                        refine z_iconst (pc2 := 27) rfl rfl ?_
                        refine z_goto (pc2 := 31) rfl rfl ?_
                        refine z_zret rfl rfl (by omega) ?_
                        show zB _ _ _ _ _ _ [_] _ _
                        refine z_if_eq (t := 40) (pc2 := 36) rfl rfl rfl (by omega) (fun c52 => by exfalso; omega) (fun c52 => ?_)
                        refine z_iconst (pc2 := 37) rfl rfl ?_
                        refine z_goto (pc2 := 60) rfl rfl ?_
                        refine z_iret rfl rfl ?_
                        show zB _ _ _ _ _ _ [_] _ _
                        refine z_istore (lv2 := [(9, _), (8, _), (7, _), (6, _), (0, _), (1, _), (2, _), (3, _), (4, _), (5, _)]) (pc2 := 224) rfl rfl rfl rfl ?_
                        refine z_iload (pc2 := 226) rfl rfl rfl ?_
                        refine z_if_eq (t := 234) (pc2 := 229) rfl rfl rfl (by omega) (fun c53 => by exfalso; omega) (fun c53 => ?_)
                        refine z_iload (pc2 := 231) rfl rfl rfl ?_
                        refine z_goto (pc2 := 244) rfl rfl ?_
                        refine z_istore (lv2 := [(9, _), (8, _), (7, _), (6, _), (0, _), (1, _), (2, _), (3, _), (4, _), (5, _)]) (pc2 := 246) rfl rfl rfl rfl ?_
                        refine z_iload (pc2 := 248) rfl rfl rfl ?_
                        refine z_if_eq (t := 254) (pc2 := 251) rfl rfl rfl (by omega) (fun c54 => by exfalso; omega) (fun c54 => ?_)
                        refine z_iload (pc2 := 253) rfl rfl rfl ?_
                        refine z_iret rfl rfl ?_
                        exact hK _ _ _ (by omega) (by repeat (first | exact zFr_rf _ | assumption | refine zFr_a ?_ (by decide) | refine zFr_f ?_ (by decide) | refine zFr_n ?_ (by omega) | refine zFr_h ?_ (by omega) | refine zFr_tok ?_ (by omega))) (by repeat (first | exact zQt_rf _ | assumption | refine zQt_a ?_ (by decide) | refine zQt_f ?_ (by decide)))
                      ·
                        refine z_iload_n (pc2 := 13) rfl rfl rfl ?_
                        refine z_i2l (pc2 := 14) rfl rfl (by omega) ?_
                        refine z_ldc2 (96) (pc2 := 17) rfl rfl rfl ?_
                        refine z_ldc2 (99) (pc2 := 20) rfl rfl rfl ?_
                        refine z_callS (y2 := 157) (as := [_, _, _]) (rest := []) (pc2 := 23) rfl rfl rfl rfl ?_
                        refine m_in (by omega) (by omega) (by omega) (fun e55 e55a e55b e55c => ?_)
                        show zB _ _ _ _ _ _ [_] _ _
                        refine z_if_eq (t := 30) (pc2 := 26) rfl rfl rfl (by omega) (fun c56 => ?_) (fun c56 => ?_)
                        ·
                          refine z_iconst (pc2 := 31) rfl rfl ?_
                          refine z_zret rfl rfl (by omega) ?_
                          show zB _ _ _ _ _ _ [_] _ _
                          refine z_if_eq (t := 40) (pc2 := 36) rfl rfl rfl (by omega) (fun c57 => ?_) (fun c57 => by exfalso; omega)
                          refine z_iload (pc2 := 42) rfl rfl rfl ?_
                          refine z_aload_n (pc2 := 43) rfl rfl rfl ?_
                          refine z_getP (pc2 := 46) rfl rfl rfl rfl t56 ?_
                          intro p58 p58e p58k; replace p58k : p58 = some 61 := p58k; clear p58e; subst p58k
                          refine z_aload_n (pc2 := 47) rfl rfl rfl ?_
                          refine z_iload_n (pc2 := 48) rfl rfl rfl ?_
                          refine z_callV (y2 := 163) (as := [_]) (rest := [_, _]) (pc2 := 51) rfl rfl rfl rfl t56 rfl ?_
                          refine z_inl ?_
                          refine z_lv (lv2 := [(0, _), (1, _)]) ⟨rfl, rfl, trivial⟩ ?_
                          refine z_iconst (pc2 := 1) rfl rfl ?_
                          refine z_aload_n (pc2 := 2) rfl rfl rfl ?_
                          refine z_getI (pc2 := 5) 0 rfl rfl rfl rfl rfl t56 ?_
                          intro v59 e59 r59 k59
                          replace k59 : (0 : Int) ≤ v59 ∧ v59 ≤ 1 := k59; clear r59
                          replace e59 : v3 = v59 := by rw [e59]; first | exact e3 | exact Eq.symm e3 | (simp [zU]; first | done | exact e3 | exact Eq.symm e3 | omega)
                          subst e59
                          refine z_imul (pc2 := 6) rfl rfl ?_
                          refine z_iload_n (pc2 := 7) rfl rfl rfl ?_
                          refine z_iadd (pc2 := 8) rfl rfl ?_
                          refine z_iret rfl rfl ?_
                          show zB _ _ _ _ _ _ [_, _, _] _ _
                          refine z_iald (pc2 := 52) rfl rfl t61 (by omega) (by omega) (by decide) ?_
                          intro v60 e60 r60 k60
                          replace k60 : (-1 : Int) ≤ v60 ∧ v60 ≤ 24 := k60; clear r60
                          refine z_icmp_ge (t := 59) (pc2 := 55) rfl rfl rfl (by omega) (by omega) (fun c61 => ?_) (fun c61 => ?_)
                          ·
                            refine z_iconst (pc2 := 60) rfl rfl ?_
                            refine z_iret rfl rfl ?_
                            show zB _ _ _ _ _ _ [_] _ _
                            refine z_istore (lv2 := [(9, _), (8, _), (7, _), (6, _), (0, _), (1, _), (2, _), (3, _), (4, _), (5, _)]) (pc2 := 224) rfl rfl rfl rfl ?_
                            refine z_iload (pc2 := 226) rfl rfl rfl ?_
                            refine z_if_eq (t := 234) (pc2 := 229) rfl rfl rfl (by omega) (fun c62 => by exfalso; omega) (fun c62 => ?_)
                            refine z_iload (pc2 := 231) rfl rfl rfl ?_
                            refine z_goto (pc2 := 244) rfl rfl ?_
                            refine z_istore (lv2 := [(9, _), (8, _), (7, _), (6, _), (0, _), (1, _), (2, _), (3, _), (4, _), (5, _)]) (pc2 := 246) rfl rfl rfl rfl ?_
                            refine z_iload (pc2 := 248) rfl rfl rfl ?_
                            refine z_if_eq (t := 254) (pc2 := 251) rfl rfl rfl (by omega) (fun c63 => by exfalso; omega) (fun c63 => ?_)
                            refine z_iload (pc2 := 253) rfl rfl rfl ?_
                            refine z_iret rfl rfl ?_
                            exact hK _ _ _ (by omega) (by repeat (first | exact zFr_rf _ | assumption | refine zFr_a ?_ (by decide) | refine zFr_f ?_ (by decide) | refine zFr_n ?_ (by omega) | refine zFr_h ?_ (by omega) | refine zFr_tok ?_ (by omega))) (by repeat (first | exact zQt_rf _ | assumption | refine zQt_a ?_ (by decide) | refine zQt_f ?_ (by decide)))
                          ·
                            refine z_iconst (pc2 := 56) rfl rfl ?_
                            refine z_goto (pc2 := 60) rfl rfl ?_
                            refine z_iret rfl rfl ?_
                            show zB _ _ _ _ _ _ [_] _ _
                            refine z_istore (lv2 := [(9, _), (8, _), (7, _), (6, _), (0, _), (1, _), (2, _), (3, _), (4, _), (5, _)]) (pc2 := 224) rfl rfl rfl rfl ?_
                            refine z_iload (pc2 := 226) rfl rfl rfl ?_
                            refine z_if_eq (t := 234) (pc2 := 229) rfl rfl rfl (by omega) (fun c64 => ?_) (fun c64 => by exfalso; omega)
                            refine z_aload_n (pc2 := 235) rfl rfl rfl ?_
                            refine z_iload_n (pc2 := 236) rfl rfl rfl ?_
                            refine z_iload_n (pc2 := 237) rfl rfl rfl ?_
                            refine z_iload (pc2 := 239) rfl rfl rfl ?_
                            refine z_iconst (pc2 := 240) rfl rfl ?_
                            refine z_iadd (pc2 := 241) rfl rfl ?_
                            refine z_callV (y2 := 223) (as := [_, _, _]) (rest := []) (pc2 := 244) rfl rfl rfl rfl t56 rfl ?_
                            refine z_inl ?_
                            refine z_lv (lv2 := [(0, _), (1, _), (2, _), (3, _)]) ⟨rfl, rfl, rfl, rfl, trivial⟩ ?_
                            refine z_iload_n (pc2 := 1) rfl rfl rfl ?_
                            refine z_aload_n (pc2 := 2) rfl rfl rfl ?_
                            refine z_getP (pc2 := 5) rfl rfl rfl rfl t56 ?_
                            intro p65 p65e p65k; replace p65k : p65 = some 77 := p65k; clear p65e; subst p65k
                            refine z_bipush (pc2 := 7) rfl rfl (by decide) ?_
                            refine z_aload_n (pc2 := 8) rfl rfl rfl ?_
                            refine z_getI (pc2 := 11) 0 rfl rfl rfl rfl rfl t56 ?_
                            intro v66 e66 r66 k66
                            replace k66 : (0 : Int) ≤ v66 ∧ v66 ≤ 1 := k66; clear r66
                            replace e66 : v3 = v66 := by rw [e66]; first | exact e3 | exact Eq.symm e3 | (simp [zU]; first | done | exact e3 | exact Eq.symm e3 | omega)
                            subst e66
                            refine z_imul (pc2 := 12) rfl rfl ?_
                            refine z_iload_n (pc2 := 13) rfl rfl rfl ?_
                            refine z_iadd (pc2 := 14) rfl rfl ?_
                            refine z_iald (pc2 := 15) rfl rfl t77 (by omega) (by omega) (by decide) ?_
                            intro v67 e67 r67 k67
                            replace k67 : (-1 : Int) ≤ v67 ∧ v67 ≤ 40 := k67; clear r67
                            replace e67 : v42 = v67 := by rw [e67]; first | exact e42 | exact Eq.symm e42 | (simp [zU]; first | done | exact e42 | exact Eq.symm e42 | omega)
                            subst e67
                            refine z_icmp_lt (t := 20) (pc2 := 18) rfl rfl rfl (by omega) (by omega) (fun c68 => ?_) (fun c68 => ?_)
                            ·
                              refine z_aload_n (pc2 := 21) rfl rfl rfl ?_
                              refine z_iload_n (pc2 := 22) rfl rfl rfl ?_
                              refine z_iload_n (pc2 := 23) rfl rfl rfl ?_
                              refine z_callV (y2 := 221) (as := [_, _]) (rest := []) (pc2 := 26) rfl rfl rfl rfl t56 rfl ?_
                              refine z_inl ?_
                              refine z_lv (lv2 := [(0, _), (1, _), (2, _)]) ⟨rfl, rfl, rfl, trivial⟩ ?_
                              refine z_aload_n (pc2 := 1) rfl rfl rfl ?_
                              refine z_getP (pc2 := 4) rfl rfl rfl rfl t56 ?_
                              intro p69 p69e p69k; replace p69k : p69 = some 78 := p69k; clear p69e; subst p69k
                              refine z_bipush (pc2 := 6) rfl rfl (by decide) ?_
                              refine z_bipush (pc2 := 8) rfl rfl (by decide) ?_
                              refine z_aload_n (pc2 := 9) rfl rfl rfl ?_
                              refine z_getI (pc2 := 12) 0 rfl rfl rfl rfl rfl t56 ?_
                              intro v70 e70 r70 k70
                              replace k70 : (0 : Int) ≤ v70 ∧ v70 ≤ 1 := k70; clear r70
                              replace e70 : v3 = v70 := by rw [e70]; first | exact e3 | exact Eq.symm e3 | (simp [zU]; first | done | exact e3 | exact Eq.symm e3 | omega)
                              subst e70
                              refine z_imul (pc2 := 13) rfl rfl ?_
                              refine z_iload_n (pc2 := 14) rfl rfl rfl ?_
                              refine z_iadd (pc2 := 15) rfl rfl ?_
                              refine z_imul (pc2 := 16) rfl rfl ?_
                              refine z_iload_n (pc2 := 17) rfl rfl rfl ?_
                              refine z_iadd (pc2 := 18) rfl rfl ?_
                              refine z_iald (pc2 := 19) rfl rfl t78 (by omega) (by omega) (by decide) ?_
                              intro v71 e71 r71 k71
                              replace k71 : (0 : Int) ≤ v71 ∧ v71 ≤ 127 := k71; clear r71
                              refine z_iret rfl rfl ?_
                              show zB _ _ _ _ _ _ [_] _ _
                              refine z_istore (lv2 := [(4, _), (0, _), (1, _), (2, _), (3, _)]) (pc2 := 28) rfl rfl rfl rfl ?_
                              refine z_iload (pc2 := 30) rfl rfl rfl ?_
                              refine z_callS (y2 := 222) (as := [_]) (rest := []) (pc2 := 33) rfl rfl rfl rfl ?_
                              refine z_inl ?_
                              refine z_lv (lv2 := [(0, _)]) ⟨rfl, trivial⟩ ?_
                              refine z_iload_n (pc2 := 1) rfl rfl rfl ?_
                              refine z_bipush (pc2 := 3) rfl rfl (by decide) ?_
                              refine z_icmp_eq (t := 26) (pc2 := 6) rfl rfl rfl (by omega) (by omega) (fun c72 => ?_) (fun c72 => ?_)
                              ·
                                refine z_iconst (pc2 := 27) rfl rfl ?_
                                refine z_goto (pc2 := 31) rfl rfl ?_
                                refine z_zret rfl rfl (by omega) ?_
                                show zB _ _ _ _ _ _ [_] _ _
                                refine z_if_eq (t := 40) (pc2 := 36) rfl rfl rfl (by omega) (fun c73 => by exfalso; omega) (fun c73 => ?_)
                                refine z_iconst (pc2 := 37) rfl rfl ?_
                                refine z_goto (pc2 := 60) rfl rfl ?_
                                refine z_iret rfl rfl ?_
                                show zB _ _ _ _ _ _ [_] _ _
                                refine z_istore (lv2 := [(9, _), (8, _), (7, _), (6, _), (0, _), (1, _), (2, _), (3, _), (4, _), (5, _)]) (pc2 := 246) rfl rfl rfl rfl ?_
                                refine z_iload (pc2 := 248) rfl rfl rfl ?_
                                refine z_if_eq (t := 254) (pc2 := 251) rfl rfl rfl (by omega) (fun c74 => by exfalso; omega) (fun c74 => ?_)
                                refine z_iload (pc2 := 253) rfl rfl rfl ?_
                                refine z_iret rfl rfl ?_
                                exact hK _ _ _ (by omega) (by repeat (first | exact zFr_rf _ | assumption | refine zFr_a ?_ (by decide) | refine zFr_f ?_ (by decide) | refine zFr_n ?_ (by omega) | refine zFr_h ?_ (by omega) | refine zFr_tok ?_ (by omega))) (by repeat (first | exact zQt_rf _ | assumption | refine zQt_a ?_ (by decide) | refine zQt_f ?_ (by decide)))
                              ·
                                refine z_iload_n (pc2 := 7) rfl rfl rfl ?_
                                refine z_bipush (pc2 := 9) rfl rfl (by decide) ?_
                                refine z_icmp_eq (t := 26) (pc2 := 12) rfl rfl rfl (by omega) (by omega) (fun c75 => ?_) (fun c75 => ?_)
                                ·
                                  refine z_iconst (pc2 := 27) rfl rfl ?_
                                  refine z_goto (pc2 := 31) rfl rfl ?_
                                  refine z_zret rfl rfl (by omega) ?_
                                  show zB _ _ _ _ _ _ [_] _ _
                                  refine z_if_eq (t := 40) (pc2 := 36) rfl rfl rfl (by omega) (fun c76 => by exfalso; omega) (fun c76 => ?_)
                                  refine z_iconst (pc2 := 37) rfl rfl ?_
                                  refine z_goto (pc2 := 60) rfl rfl ?_
                                  refine z_iret rfl rfl ?_
                                  show zB _ _ _ _ _ _ [_] _ _
                                  refine z_istore (lv2 := [(9, _), (8, _), (7, _), (6, _), (0, _), (1, _), (2, _), (3, _), (4, _), (5, _)]) (pc2 := 246) rfl rfl rfl rfl ?_
                                  refine z_iload (pc2 := 248) rfl rfl rfl ?_
                                  refine z_if_eq (t := 254) (pc2 := 251) rfl rfl rfl (by omega) (fun c77 => by exfalso; omega) (fun c77 => ?_)
                                  refine z_iload (pc2 := 253) rfl rfl rfl ?_
                                  refine z_iret rfl rfl ?_
                                  exact hK _ _ _ (by omega) (by repeat (first | exact zFr_rf _ | assumption | refine zFr_a ?_ (by decide) | refine zFr_f ?_ (by decide) | refine zFr_n ?_ (by omega) | refine zFr_h ?_ (by omega) | refine zFr_tok ?_ (by omega))) (by repeat (first | exact zQt_rf _ | assumption | refine zQt_a ?_ (by decide) | refine zQt_f ?_ (by decide)))
                                ·
                                  refine z_iload_n (pc2 := 13) rfl rfl rfl ?_
                                  refine z_i2l (pc2 := 14) rfl rfl (by omega) ?_
                                  refine z_ldc2 (96) (pc2 := 17) rfl rfl rfl ?_
                                  refine z_ldc2 (99) (pc2 := 20) rfl rfl rfl ?_
                                  refine z_callS (y2 := 157) (as := [_, _, _]) (rest := []) (pc2 := 23) rfl rfl rfl rfl ?_
                                  refine m_in (by omega) (by omega) (by omega) (fun e78 e78a e78b e78c => ?_)
                                  show zB _ _ _ _ _ _ [_] _ _
                                  refine z_if_eq (t := 30) (pc2 := 26) rfl rfl rfl (by omega) (fun c79 => ?_) (fun c79 => ?_)
                                  ·
                                    refine z_iconst (pc2 := 31) rfl rfl ?_
                                    refine z_zret rfl rfl (by omega) ?_
                                    show zB _ _ _ _ _ _ [_] _ _
                                    refine z_if_eq (t := 40) (pc2 := 36) rfl rfl rfl (by omega) (fun c80 => ?_) (fun c80 => by exfalso; omega)
                                    refine z_iload (pc2 := 42) rfl rfl rfl ?_
                                    refine z_aload_n (pc2 := 43) rfl rfl rfl ?_
                                    refine z_getP (pc2 := 46) rfl rfl rfl rfl t56 ?_
                                    intro p81 p81e p81k; replace p81k : p81 = some 61 := p81k; clear p81e; subst p81k
                                    refine z_aload_n (pc2 := 47) rfl rfl rfl ?_
                                    refine z_iload_n (pc2 := 48) rfl rfl rfl ?_
                                    refine z_callV (y2 := 163) (as := [_]) (rest := [_, _]) (pc2 := 51) rfl rfl rfl rfl t56 rfl ?_
                                    refine z_inl ?_
                                    refine z_lv (lv2 := [(0, _), (1, _)]) ⟨rfl, rfl, trivial⟩ ?_
                                    refine z_iconst (pc2 := 1) rfl rfl ?_
                                    refine z_aload_n (pc2 := 2) rfl rfl rfl ?_
                                    refine z_getI (pc2 := 5) 0 rfl rfl rfl rfl rfl t56 ?_
                                    intro v82 e82 r82 k82
                                    replace k82 : (0 : Int) ≤ v82 ∧ v82 ≤ 1 := k82; clear r82
                                    replace e82 : v3 = v82 := by rw [e82]; first | exact e3 | exact Eq.symm e3 | (simp [zU]; first | done | exact e3 | exact Eq.symm e3 | omega)
                                    subst e82
                                    refine z_imul (pc2 := 6) rfl rfl ?_
                                    refine z_iload_n (pc2 := 7) rfl rfl rfl ?_
                                    refine z_iadd (pc2 := 8) rfl rfl ?_
                                    refine z_iret rfl rfl ?_
                                    show zB _ _ _ _ _ _ [_, _, _] _ _
                                    refine z_iald (pc2 := 52) rfl rfl t61 (by omega) (by omega) (by decide) ?_
                                    intro v83 e83 r83 k83
                                    replace k83 : (-1 : Int) ≤ v83 ∧ v83 ≤ 24 := k83; clear r83
                                    replace e83 : v60 = v83 := by rw [e83]; first | exact e60 | exact Eq.symm e60 | (simp [zU]; first | done | exact e60 | exact Eq.symm e60 | omega)
                                    subst e83
                                    refine z_icmp_ge (t := 59) (pc2 := 55) rfl rfl rfl (by omega) (by omega) (fun c84 => ?_) (fun c84 => ?_)
                                    ·
                                      refine z_iconst (pc2 := 60) rfl rfl ?_
                                      refine z_iret rfl rfl ?_
                                      show zB _ _ _ _ _ _ [_] _ _
                                      refine z_istore (lv2 := [(9, _), (8, _), (7, _), (6, _), (0, _), (1, _), (2, _), (3, _), (4, _), (5, _)]) (pc2 := 246) rfl rfl rfl rfl ?_
                                      refine z_iload (pc2 := 248) rfl rfl rfl ?_
                                      refine z_if_eq (t := 254) (pc2 := 251) rfl rfl rfl (by omega) (fun c85 => by exfalso; omega) (fun c85 => ?_)
                                      refine z_iload (pc2 := 253) rfl rfl rfl ?_
                                      refine z_iret rfl rfl ?_
                                      exact hK _ _ _ (by omega) (by repeat (first | exact zFr_rf _ | assumption | refine zFr_a ?_ (by decide) | refine zFr_f ?_ (by decide) | refine zFr_n ?_ (by omega) | refine zFr_h ?_ (by omega) | refine zFr_tok ?_ (by omega))) (by repeat (first | exact zQt_rf _ | assumption | refine zQt_a ?_ (by decide) | refine zQt_f ?_ (by decide)))
                                    ·
                                      refine z_iconst (pc2 := 56) rfl rfl ?_
                                      refine z_goto (pc2 := 60) rfl rfl ?_
                                      refine z_iret rfl rfl ?_
                                      show zB _ _ _ _ _ _ [_] _ _
                                      refine z_istore (lv2 := [(9, _), (8, _), (7, _), (6, _), (0, _), (1, _), (2, _), (3, _), (4, _), (5, _)]) (pc2 := 246) rfl rfl rfl rfl ?_
                                      refine z_iload (pc2 := 248) rfl rfl rfl ?_
                                      refine z_if_eq (t := 254) (pc2 := 251) rfl rfl rfl (by omega) (fun c86 => ?_) (fun c86 => by exfalso; omega)
                                      refine z_aload_n (pc2 := 255) rfl rfl rfl ?_
                                      refine z_iconst (pc2 := 256) rfl rfl ?_
                                      refine z_iconst (pc2 := 257) rfl rfl ?_
                                      refine z_iload_n (pc2 := 258) rfl rfl rfl ?_
                                      refine z_aload_n (pc2 := 259) rfl rfl rfl ?_
                                      refine z_iload_n (pc2 := 260) rfl rfl rfl ?_
                                      refine z_iload (pc2 := 262) rfl rfl rfl ?_
                                      refine z_iconst (pc2 := 263) rfl rfl ?_
                                      refine z_iadd (pc2 := 264) rfl rfl ?_
                                      refine z_callV (y2 := 221) (as := [_, _]) (rest := [_, _, _, _]) (pc2 := 267) rfl rfl rfl rfl t56 rfl ?_
                                      refine z_inl ?_
                                      refine z_lv (lv2 := [(0, _), (1, _), (2, _)]) ⟨rfl, rfl, rfl, trivial⟩ ?_
                                      refine z_aload_n (pc2 := 1) rfl rfl rfl ?_
                                      refine z_getP (pc2 := 4) rfl rfl rfl rfl t56 ?_
                                      intro p87 p87e p87k; replace p87k : p87 = some 78 := p87k; clear p87e; subst p87k
                                      refine z_bipush (pc2 := 6) rfl rfl (by decide) ?_
                                      refine z_bipush (pc2 := 8) rfl rfl (by decide) ?_
                                      refine z_aload_n (pc2 := 9) rfl rfl rfl ?_
                                      refine z_getI (pc2 := 12) 0 rfl rfl rfl rfl rfl t56 ?_
                                      intro v88 e88 r88 k88
                                      replace k88 : (0 : Int) ≤ v88 ∧ v88 ≤ 1 := k88; clear r88
                                      replace e88 : v3 = v88 := by rw [e88]; first | exact e3 | exact Eq.symm e3 | (simp [zU]; first | done | exact e3 | exact Eq.symm e3 | omega)
                                      subst e88
                                      refine z_imul (pc2 := 13) rfl rfl ?_
                                      refine z_iload_n (pc2 := 14) rfl rfl rfl ?_
                                      refine z_iadd (pc2 := 15) rfl rfl ?_
                                      refine z_imul (pc2 := 16) rfl rfl ?_
                                      refine z_iload_n (pc2 := 17) rfl rfl rfl ?_
                                      refine z_iadd (pc2 := 18) rfl rfl ?_
                                      refine z_iald (pc2 := 19) rfl rfl t78 (by omega) (by omega) (by decide) ?_
                                      intro v89 e89 r89 k89
                                      replace k89 : (0 : Int) ≤ v89 ∧ v89 ≤ 127 := k89; clear r89
                                      replace e89 : v46 = v89 := by rw [e89]; first | exact e46 | exact Eq.symm e46 | (simp [zU]; first | done | exact e46 | exact Eq.symm e46 | omega)
                                      subst e89
                                      refine z_iret rfl rfl ?_
                                      show zB _ _ _ _ _ _ [_, _, _, _, _] _ _
                                      refine z_callS (y2 := 170) (as := [_, _, _]) (rest := [_, _]) (pc2 := 270) rfl rfl rfl rfl ?_
                                      refine m_sort (by omega) (by omega) (by omega) (by omega) (by omega) (fun w90 w90r w90g => ?_)
                                      show zB _ _ _ _ _ _ [_, _, _] _ _
                                      refine z_iconst (pc2 := 271) rfl rfl ?_
                                      refine z_iload_n (pc2 := 272) rfl rfl rfl ?_
                                      refine z_aload_n (pc2 := 273) rfl rfl rfl ?_
                                      refine z_iload_n (pc2 := 274) rfl rfl rfl ?_
                                      refine z_iload (pc2 := 276) rfl rfl rfl ?_
                                      refine z_iconst (pc2 := 277) rfl rfl ?_
                                      refine z_iadd (pc2 := 278) rfl rfl ?_
                                      refine z_callV (y2 := 221) (as := [_, _]) (rest := [_, _, _, _, _]) (pc2 := 281) rfl rfl rfl rfl t56 rfl ?_
                                      refine z_inl ?_
                                      refine z_lv (lv2 := [(0, _), (1, _), (2, _)]) ⟨rfl, rfl, rfl, trivial⟩ ?_
                                      refine z_aload_n (pc2 := 1) rfl rfl rfl ?_
                                      refine z_getP (pc2 := 4) rfl rfl rfl rfl t56 ?_
                                      intro p91 p91e p91k; replace p91k : p91 = some 78 := p91k; clear p91e; subst p91k
                                      refine z_bipush (pc2 := 6) rfl rfl (by decide) ?_
                                      refine z_bipush (pc2 := 8) rfl rfl (by decide) ?_
                                      refine z_aload_n (pc2 := 9) rfl rfl rfl ?_
                                      refine z_getI (pc2 := 12) 0 rfl rfl rfl rfl rfl t56 ?_
                                      intro v92 e92 r92 k92
                                      replace k92 : (0 : Int) ≤ v92 ∧ v92 ≤ 1 := k92; clear r92
                                      replace e92 : v3 = v92 := by rw [e92]; first | exact e3 | exact Eq.symm e3 | (simp [zU]; first | done | exact e3 | exact Eq.symm e3 | omega)
                                      subst e92
                                      refine z_imul (pc2 := 13) rfl rfl ?_
                                      refine z_iload_n (pc2 := 14) rfl rfl rfl ?_
                                      refine z_iadd (pc2 := 15) rfl rfl ?_
                                      refine z_imul (pc2 := 16) rfl rfl ?_
                                      refine z_iload_n (pc2 := 17) rfl rfl rfl ?_
                                      refine z_iadd (pc2 := 18) rfl rfl ?_
                                      refine z_iald (pc2 := 19) rfl rfl t78 (by omega) (by omega) (by decide) ?_
                                      intro v93 e93 r93 k93
                                      replace k93 : (0 : Int) ≤ v93 ∧ v93 ≤ 127 := k93; clear r93
                                      replace e93 : v71 = v93 := by rw [e93]; first | exact e71 | exact Eq.symm e71 | (simp [zU]; first | done | exact e71 | exact Eq.symm e71 | omega)
                                      subst e93
                                      refine z_iret rfl rfl ?_
                                      show zB _ _ _ _ _ _ [_, _, _, _, _, _] _ _
                                      refine z_callS (y2 := 170) (as := [_, _, _]) (rest := [_, _, _]) (pc2 := 284) rfl rfl rfl rfl ?_
                                      refine m_sort (by omega) (by omega) (by omega) (by omega) (by omega) (fun w94 w94r w94g => ?_)
                                      show zB _ _ _ _ _ _ [_, _, _, _] _ _
                                      refine z_callS (y2 := 171) (as := [_, _]) (rest := [_, _]) (pc2 := 287) rfl rfl rfl rfl ?_
                                      refine m_stacked (by omega) (by omega) (by assumption) (by assumption) (fun w95 w95r w95g => ?_)
                                      show zB _ _ _ _ _ _ [_, _, _] _ _
                                      refine z_callV (y2 := 225) (as := [_, _]) (rest := []) (pc2 := 290) rfl rfl rfl rfl t56 rfl ?_
                                      refine z_inl ?_
                                      refine z_lv (lv2 := [(0, _), (1, _), (2, _)]) ⟨rfl, rfl, rfl, trivial⟩ ?_
                                      refine z_aload_n (pc2 := 1) rfl rfl rfl ?_
                                      refine z_getP (pc2 := 4) rfl rfl rfl rfl t56 ?_
                                      intro p96 p96e p96k; replace p96k : p96 = some 80 := p96k; clear p96e; subst p96k
                                      refine z_aload_n (pc2 := 5) rfl rfl rfl ?_
                                      refine z_getI (pc2 := 8) 0 rfl rfl rfl rfl rfl t56 ?_
                                      intro v97 e97 r97 k97
                                      replace k97 : (0 : Int) ≤ v97 ∧ v97 ≤ 40 := k97; clear r97
                                      replace e97 : k = v97 := by rw [e97]; first | exact hk2 | exact Eq.symm hk2 | (simp [zU]; first | done | exact hk2 | exact Eq.symm hk2 | omega)
                                      subst e97
                                      refine z_iload_n (pc2 := 9) rfl rfl rfl ?_
                                      refine z_iast (pc2 := 10) rfl rfl t80 (by omega) (by omega) (by decide) (by omega) True.intro ?_
                                      refine z_aload_n (pc2 := 11) rfl rfl rfl ?_
                                      refine z_getP (pc2 := 14) rfl rfl rfl rfl t56 ?_
                                      intro p98 p98e p98k; replace p98k : p98 = some 81 := p98k; clear p98e; subst p98k
                                      refine z_aload_n (pc2 := 15) rfl rfl rfl ?_
                                      refine z_getI (pc2 := 18) 0 rfl rfl rfl rfl rfl t56 ?_
                                      intro v99 e99 r99 k99
                                      replace k99 : (0 : Int) ≤ v99 ∧ v99 ≤ 40 := k99; clear r99
                                      replace e99 : k = v99 := by rw [e99]; first | exact hk2 | exact Eq.symm hk2 | (simp [zU]; first | done | exact hk2 | exact Eq.symm hk2 | omega)
                                      subst e99
                                      refine z_iload_n (pc2 := 19) rfl rfl rfl ?_
                                      refine z_iast (pc2 := 20) rfl rfl t81 (by omega) (by omega) (by decide) (by omega) (by show zGd _; first | assumption | exact zGd_0 | (unfold zGd; refine ⟨⟨?_, ?_⟩, ⟨?_, ?_⟩, ?_⟩ <;> omega)) ?_
                                      refine z_aload_n (pc2 := 21) rfl rfl rfl ?_
                                      refine z_dup (pc2 := 22) rfl rfl rfl ?_
                                      refine z_getI (pc2 := 25) 0 rfl rfl rfl rfl rfl t56 ?_
                                      intro v100 e100 r100 k100
                                      replace k100 : (0 : Int) ≤ v100 ∧ v100 ≤ 40 := k100; clear r100
                                      replace e100 : k = v100 := by rw [e100]; first | exact hk2 | exact Eq.symm hk2 | (simp [zU]; first | done | exact hk2 | exact Eq.symm hk2 | omega)
                                      subst e100
                                      refine z_iconst (pc2 := 26) rfl rfl ?_
                                      refine z_iadd (pc2 := 27) rfl rfl ?_
                                      refine z_putI (pc2 := 30) rfl rfl rfl rfl rfl rfl t56 (by omega) (by show (0 : Int) ≤ _ ∧ _ ≤ 40; omega) ?_
                                      refine z_ret rfl rfl ?_
                                      show zB _ _ _ _ _ _ [] _ _
                                      refine z_iconst (pc2 := 291) rfl rfl ?_
                                      refine z_istore (lv2 := [(8, _), (9, _), (7, _), (6, _), (0, _), (1, _), (2, _), (3, _), (4, _), (5, _)]) (pc2 := 293) rfl rfl rfl rfl ?_
                                      refine z_goto (pc2 := 363) rfl rfl ?_
                                      refine z_iload (pc2 := 365) rfl rfl rfl ?_
                                      refine z_iload (pc2 := 367) rfl rfl rfl ?_
                                      refine z_iadd (pc2 := 368) rfl rfl ?_
                                      refine z_istore (lv2 := [(5, _), (8, _), (9, _), (7, _), (6, _), (0, _), (1, _), (2, _), (3, _), (4, _)]) (pc2 := 370) rfl rfl rfl rfl ?_
                                      refine z_goto (pc2 := 35) rfl rfl ?_
                                      refine z_lv (lv2 := [(0, _), (1, _), (2, _), (3, _), (4, _), (5, _)]) ⟨rfl, rfl, rfl, rfl, rfl, rfl, trivial⟩ ?_
                                      exact ih _ _ _ _ (by omega) (by omega) (by repeat (first | exact zFr_rf _ | assumption | refine zFr_a ?_ (by decide) | refine zFr_f ?_ (by decide) | refine zFr_n ?_ (by omega) | refine zFr_h ?_ (by omega) | refine zFr_tok ?_ (by omega))) (zU_same _ _ _ _) (by omega) (by repeat (first | exact zQt_rf _ | assumption | refine zQt_a ?_ (by decide) | refine zQt_f ?_ (by decide))) (by omega)
                                  ·
                                    refine z_iconst (pc2 := 27) rfl rfl ?_
                                    refine z_goto (pc2 := 31) rfl rfl ?_
                                    refine z_zret rfl rfl (by omega) ?_
                                    show zB _ _ _ _ _ _ [_] _ _
                                    refine z_if_eq (t := 40) (pc2 := 36) rfl rfl rfl (by omega) (fun c101 => by exfalso; omega) (fun c101 => ?_)
                                    refine z_iconst (pc2 := 37) rfl rfl ?_
                                    refine z_goto (pc2 := 60) rfl rfl ?_
                                    refine z_iret rfl rfl ?_
                                    show zB _ _ _ _ _ _ [_] _ _
                                    refine z_istore (lv2 := [(9, _), (8, _), (7, _), (6, _), (0, _), (1, _), (2, _), (3, _), (4, _), (5, _)]) (pc2 := 246) rfl rfl rfl rfl ?_
                                    refine z_iload (pc2 := 248) rfl rfl rfl ?_
                                    refine z_if_eq (t := 254) (pc2 := 251) rfl rfl rfl (by omega) (fun c102 => by exfalso; omega) (fun c102 => ?_)
                                    refine z_iload (pc2 := 253) rfl rfl rfl ?_
                                    refine z_iret rfl rfl ?_
                                    exact hK _ _ _ (by omega) (by repeat (first | exact zFr_rf _ | assumption | refine zFr_a ?_ (by decide) | refine zFr_f ?_ (by decide) | refine zFr_n ?_ (by omega) | refine zFr_h ?_ (by omega) | refine zFr_tok ?_ (by omega))) (by repeat (first | exact zQt_rf _ | assumption | refine zQt_a ?_ (by decide) | refine zQt_f ?_ (by decide)))
                            ·
                              refine z_iconst (pc2 := 19) rfl rfl ?_
                              refine z_iret rfl rfl ?_
                              show zB _ _ _ _ _ _ [_] _ _
                              refine z_istore (lv2 := [(9, _), (8, _), (7, _), (6, _), (0, _), (1, _), (2, _), (3, _), (4, _), (5, _)]) (pc2 := 246) rfl rfl rfl rfl ?_
                              refine z_iload (pc2 := 248) rfl rfl rfl ?_
                              refine z_if_eq (t := 254) (pc2 := 251) rfl rfl rfl (by omega) (fun c103 => by exfalso; omega) (fun c103 => ?_)
                              refine z_iload (pc2 := 253) rfl rfl rfl ?_
                              refine z_iret rfl rfl ?_
                              exact hK _ _ _ (by omega) (by repeat (first | exact zFr_rf _ | assumption | refine zFr_a ?_ (by decide) | refine zFr_f ?_ (by decide) | refine zFr_n ?_ (by omega) | refine zFr_h ?_ (by omega) | refine zFr_tok ?_ (by omega))) (by repeat (first | exact zQt_rf _ | assumption | refine zQt_a ?_ (by decide) | refine zQt_f ?_ (by decide)))
                        ·
                          refine z_iconst (pc2 := 27) rfl rfl ?_
                          refine z_goto (pc2 := 31) rfl rfl ?_
                          refine z_zret rfl rfl (by omega) ?_
                          show zB _ _ _ _ _ _ [_] _ _
                          refine z_if_eq (t := 40) (pc2 := 36) rfl rfl rfl (by omega) (fun c104 => by exfalso; omega) (fun c104 => ?_)
                          refine z_iconst (pc2 := 37) rfl rfl ?_
                          refine z_goto (pc2 := 60) rfl rfl ?_
                          refine z_iret rfl rfl ?_
                          show zB _ _ _ _ _ _ [_] _ _
                          refine z_istore (lv2 := [(9, _), (8, _), (7, _), (6, _), (0, _), (1, _), (2, _), (3, _), (4, _), (5, _)]) (pc2 := 224) rfl rfl rfl rfl ?_
                          refine z_iload (pc2 := 226) rfl rfl rfl ?_
                          refine z_if_eq (t := 234) (pc2 := 229) rfl rfl rfl (by omega) (fun c105 => by exfalso; omega) (fun c105 => ?_)
                          refine z_iload (pc2 := 231) rfl rfl rfl ?_
                          refine z_goto (pc2 := 244) rfl rfl ?_
                          refine z_istore (lv2 := [(9, _), (8, _), (7, _), (6, _), (0, _), (1, _), (2, _), (3, _), (4, _), (5, _)]) (pc2 := 246) rfl rfl rfl rfl ?_
                          refine z_iload (pc2 := 248) rfl rfl rfl ?_
                          refine z_if_eq (t := 254) (pc2 := 251) rfl rfl rfl (by omega) (fun c106 => by exfalso; omega) (fun c106 => ?_)
                          refine z_iload (pc2 := 253) rfl rfl rfl ?_
                          refine z_iret rfl rfl ?_
                          exact hK _ _ _ (by omega) (by repeat (first | exact zFr_rf _ | assumption | refine zFr_a ?_ (by decide) | refine zFr_f ?_ (by decide) | refine zFr_n ?_ (by omega) | refine zFr_h ?_ (by omega) | refine zFr_tok ?_ (by omega))) (by repeat (first | exact zQt_rf _ | assumption | refine zQt_a ?_ (by decide) | refine zQt_f ?_ (by decide)))
                  ·
                    refine z_iconst (pc2 := 19) rfl rfl ?_
                    refine z_iret rfl rfl ?_
                    show zB _ _ _ _ _ _ [_] _ _
                    refine z_istore (lv2 := [(9, _), (8, _), (7, _), (6, _), (0, _), (1, _), (2, _), (3, _), (4, _), (5, _)]) (pc2 := 224) rfl rfl rfl rfl ?_
                    refine z_iload (pc2 := 226) rfl rfl rfl ?_
                    refine z_if_eq (t := 234) (pc2 := 229) rfl rfl rfl (by omega) (fun c107 => by exfalso; omega) (fun c107 => ?_)
                    refine z_iload (pc2 := 231) rfl rfl rfl ?_
                    refine z_goto (pc2 := 244) rfl rfl ?_
                    refine z_istore (lv2 := [(9, _), (8, _), (7, _), (6, _), (0, _), (1, _), (2, _), (3, _), (4, _), (5, _)]) (pc2 := 246) rfl rfl rfl rfl ?_
                    refine z_iload (pc2 := 248) rfl rfl rfl ?_
                    refine z_if_eq (t := 254) (pc2 := 251) rfl rfl rfl (by omega) (fun c108 => by exfalso; omega) (fun c108 => ?_)
                    refine z_iload (pc2 := 253) rfl rfl rfl ?_
                    refine z_iret rfl rfl ?_
                    exact hK _ _ _ (by omega) (by repeat (first | exact zFr_rf _ | assumption | refine zFr_a ?_ (by decide) | refine zFr_f ?_ (by decide) | refine zFr_n ?_ (by omega) | refine zFr_h ?_ (by omega) | refine zFr_tok ?_ (by omega))) (by repeat (first | exact zQt_rf _ | assumption | refine zQt_a ?_ (by decide) | refine zQt_f ?_ (by decide)))
              ·
                refine z_aload_n (pc2 := 188) rfl rfl rfl ?_
                refine z_iconst (pc2 := 189) rfl rfl ?_
                refine z_iconst (pc2 := 190) rfl rfl ?_
                refine z_iload_n (pc2 := 191) rfl rfl rfl ?_
                refine z_iload (pc2 := 193) rfl rfl rfl ?_
                refine z_bipush (pc2 := 195) rfl rfl (by decide) ?_
                refine z_isub (pc2 := 196) rfl rfl ?_
                refine z_callS (y2 := 170) (as := [_, _, _]) (rest := [_, _]) (pc2 := 199) rfl rfl rfl rfl ?_
                refine m_sort (by omega) (by omega) (by omega) (by omega) (by omega) (fun w109 w109r w109g => ?_)
                show zB _ _ _ _ _ _ [_, _, _] _ _
                refine z_callV (y2 := 225) (as := [_, _]) (rest := []) (pc2 := 202) rfl rfl rfl rfl t56 rfl ?_
                refine z_inl ?_
                refine z_lv (lv2 := [(0, _), (1, _), (2, _)]) ⟨rfl, rfl, rfl, trivial⟩ ?_
                refine z_aload_n (pc2 := 1) rfl rfl rfl ?_
                refine z_getP (pc2 := 4) rfl rfl rfl rfl t56 ?_
                intro p110 p110e p110k; replace p110k : p110 = some 80 := p110k; clear p110e; subst p110k
                refine z_aload_n (pc2 := 5) rfl rfl rfl ?_
                refine z_getI (pc2 := 8) 0 rfl rfl rfl rfl rfl t56 ?_
                intro v111 e111 r111 k111
                replace k111 : (0 : Int) ≤ v111 ∧ v111 ≤ 40 := k111; clear r111
                replace e111 : k = v111 := by rw [e111]; first | exact hk2 | exact Eq.symm hk2 | (simp [zU]; first | done | exact hk2 | exact Eq.symm hk2 | omega)
                subst e111
                refine z_iload_n (pc2 := 9) rfl rfl rfl ?_
                refine z_iast (pc2 := 10) rfl rfl t80 (by omega) (by omega) (by decide) (by omega) True.intro ?_
                refine z_aload_n (pc2 := 11) rfl rfl rfl ?_
                refine z_getP (pc2 := 14) rfl rfl rfl rfl t56 ?_
                intro p112 p112e p112k; replace p112k : p112 = some 81 := p112k; clear p112e; subst p112k
                refine z_aload_n (pc2 := 15) rfl rfl rfl ?_
                refine z_getI (pc2 := 18) 0 rfl rfl rfl rfl rfl t56 ?_
                intro v113 e113 r113 k113
                replace k113 : (0 : Int) ≤ v113 ∧ v113 ≤ 40 := k113; clear r113
                replace e113 : k = v113 := by rw [e113]; first | exact hk2 | exact Eq.symm hk2 | (simp [zU]; first | done | exact hk2 | exact Eq.symm hk2 | omega)
                subst e113
                refine z_iload_n (pc2 := 19) rfl rfl rfl ?_
                refine z_iast (pc2 := 20) rfl rfl t81 (by omega) (by omega) (by decide) (by omega) (by show zGd _; first | assumption | exact zGd_0 | (unfold zGd; refine ⟨⟨?_, ?_⟩, ⟨?_, ?_⟩, ?_⟩ <;> omega)) ?_
                refine z_aload_n (pc2 := 21) rfl rfl rfl ?_
                refine z_dup (pc2 := 22) rfl rfl rfl ?_
                refine z_getI (pc2 := 25) 0 rfl rfl rfl rfl rfl t56 ?_
                intro v114 e114 r114 k114
                replace k114 : (0 : Int) ≤ v114 ∧ v114 ≤ 40 := k114; clear r114
                replace e114 : k = v114 := by rw [e114]; first | exact hk2 | exact Eq.symm hk2 | (simp [zU]; first | done | exact hk2 | exact Eq.symm hk2 | omega)
                subst e114
                refine z_iconst (pc2 := 26) rfl rfl ?_
                refine z_iadd (pc2 := 27) rfl rfl ?_
                refine z_putI (pc2 := 30) rfl rfl rfl rfl rfl rfl t56 (by omega) (by show (0 : Int) ≤ _ ∧ _ ≤ 40; omega) ?_
                refine z_ret rfl rfl ?_
                show zB _ _ _ _ _ _ [] _ _
                refine z_goto (pc2 := 363) rfl rfl ?_
                refine z_iload (pc2 := 365) rfl rfl rfl ?_
                refine z_iload (pc2 := 367) rfl rfl rfl ?_
                refine z_iadd (pc2 := 368) rfl rfl ?_
                refine z_istore (lv2 := [(5, _), (8, _), (7, _), (6, _), (0, _), (1, _), (2, _), (3, _), (4, _)]) (pc2 := 370) rfl rfl rfl rfl ?_
                refine z_goto (pc2 := 35) rfl rfl ?_
                refine z_lv (lv2 := [(0, _), (1, _), (2, _), (3, _), (4, _), (5, _)]) ⟨rfl, rfl, rfl, rfl, rfl, rfl, trivial⟩ ?_
                exact ih _ _ _ _ (by omega) (by omega) (by repeat (first | exact zFr_rf _ | assumption | refine zFr_a ?_ (by decide) | refine zFr_f ?_ (by decide) | refine zFr_n ?_ (by omega) | refine zFr_h ?_ (by omega) | refine zFr_tok ?_ (by omega))) (zU_same _ _ _ _) (by omega) (by repeat (first | exact zQt_rf _ | assumption | refine zQt_a ?_ (by decide) | refine zQt_f ?_ (by decide))) (by omega)
            ·
              refine z_aload_n (pc2 := 159) rfl rfl rfl ?_
              refine z_bipush (pc2 := 161) rfl rfl (by decide) ?_
              refine z_iload (pc2 := 163) rfl rfl rfl ?_
              refine z_bipush (pc2 := 165) rfl rfl (by decide) ?_
              refine z_isub (pc2 := 166) rfl rfl ?_
              refine z_callV (y2 := 225) (as := [_, _]) (rest := []) (pc2 := 169) rfl rfl rfl rfl t56 rfl ?_
              refine z_inl ?_
              refine z_lv (lv2 := [(0, _), (1, _), (2, _)]) ⟨rfl, rfl, rfl, trivial⟩ ?_
              refine z_aload_n (pc2 := 1) rfl rfl rfl ?_
              refine z_getP (pc2 := 4) rfl rfl rfl rfl t56 ?_
              intro p115 p115e p115k; replace p115k : p115 = some 80 := p115k; clear p115e; subst p115k
              refine z_aload_n (pc2 := 5) rfl rfl rfl ?_
              refine z_getI (pc2 := 8) 0 rfl rfl rfl rfl rfl t56 ?_
              intro v116 e116 r116 k116
              replace k116 : (0 : Int) ≤ v116 ∧ v116 ≤ 40 := k116; clear r116
              replace e116 : k = v116 := by rw [e116]; first | exact hk2 | exact Eq.symm hk2 | (simp [zU]; first | done | exact hk2 | exact Eq.symm hk2 | omega)
              subst e116
              refine z_iload_n (pc2 := 9) rfl rfl rfl ?_
              refine z_iast (pc2 := 10) rfl rfl t80 (by omega) (by omega) (by decide) (by omega) True.intro ?_
              refine z_aload_n (pc2 := 11) rfl rfl rfl ?_
              refine z_getP (pc2 := 14) rfl rfl rfl rfl t56 ?_
              intro p117 p117e p117k; replace p117k : p117 = some 81 := p117k; clear p117e; subst p117k
              refine z_aload_n (pc2 := 15) rfl rfl rfl ?_
              refine z_getI (pc2 := 18) 0 rfl rfl rfl rfl rfl t56 ?_
              intro v118 e118 r118 k118
              replace k118 : (0 : Int) ≤ v118 ∧ v118 ≤ 40 := k118; clear r118
              replace e118 : k = v118 := by rw [e118]; first | exact hk2 | exact Eq.symm hk2 | (simp [zU]; first | done | exact hk2 | exact Eq.symm hk2 | omega)
              subst e118
              refine z_iload_n (pc2 := 19) rfl rfl rfl ?_
              refine z_iast (pc2 := 20) rfl rfl t81 (by omega) (by omega) (by decide) (by omega) (by show zGd _; first | assumption | exact zGd_0 | (unfold zGd; refine ⟨⟨?_, ?_⟩, ⟨?_, ?_⟩, ?_⟩ <;> omega)) ?_
              refine z_aload_n (pc2 := 21) rfl rfl rfl ?_
              refine z_dup (pc2 := 22) rfl rfl rfl ?_
              refine z_getI (pc2 := 25) 0 rfl rfl rfl rfl rfl t56 ?_
              intro v119 e119 r119 k119
              replace k119 : (0 : Int) ≤ v119 ∧ v119 ≤ 40 := k119; clear r119
              replace e119 : k = v119 := by rw [e119]; first | exact hk2 | exact Eq.symm hk2 | (simp [zU]; first | done | exact hk2 | exact Eq.symm hk2 | omega)
              subst e119
              refine z_iconst (pc2 := 26) rfl rfl ?_
              refine z_iadd (pc2 := 27) rfl rfl ?_
              refine z_putI (pc2 := 30) rfl rfl rfl rfl rfl rfl t56 (by omega) (by show (0 : Int) ≤ _ ∧ _ ≤ 40; omega) ?_
              refine z_ret rfl rfl ?_
              show zB _ _ _ _ _ _ [] _ _
              refine z_goto (pc2 := 363) rfl rfl ?_
              refine z_iload (pc2 := 365) rfl rfl rfl ?_
              refine z_iload (pc2 := 367) rfl rfl rfl ?_
              refine z_iadd (pc2 := 368) rfl rfl ?_
              refine z_istore (lv2 := [(5, _), (8, _), (7, _), (6, _), (0, _), (1, _), (2, _), (3, _), (4, _)]) (pc2 := 370) rfl rfl rfl rfl ?_
              refine z_goto (pc2 := 35) rfl rfl ?_
              refine z_lv (lv2 := [(0, _), (1, _), (2, _), (3, _), (4, _), (5, _)]) ⟨rfl, rfl, rfl, rfl, rfl, rfl, trivial⟩ ?_
              exact ih _ _ _ _ (by omega) (by omega) (by repeat (first | exact zFr_rf _ | assumption | refine zFr_a ?_ (by decide) | refine zFr_f ?_ (by decide) | refine zFr_n ?_ (by omega) | refine zFr_h ?_ (by omega) | refine zFr_tok ?_ (by omega))) (zU_same _ _ _ _) (by omega) (by repeat (first | exact zQt_rf _ | assumption | refine zQt_a ?_ (by decide) | refine zQt_f ?_ (by decide))) (by omega)
          ·
            refine z_iload (pc2 := 122) rfl rfl rfl ?_
            refine z_iconst (pc2 := 123) rfl rfl ?_
            refine z_icmp_ge (t := 128) (pc2 := 126) rfl rfl rfl (by omega) (by omega) (fun c120 => ?_) (fun c120 => ?_)
            ·
              refine z_aload_n (pc2 := 129) rfl rfl rfl ?_
              refine z_bipush (pc2 := 131) rfl rfl (by decide) ?_
              refine z_iconst (pc2 := 132) rfl rfl ?_
              refine z_iload_n (pc2 := 133) rfl rfl rfl ?_
              refine z_iconst (pc2 := 134) rfl rfl ?_
              refine z_callS (y2 := 170) (as := [_, _, _]) (rest := [_, _]) (pc2 := 137) rfl rfl rfl rfl ?_
              refine m_sort (by omega) (by omega) (by omega) (by omega) (by omega) (fun w121 w121r w121g => ?_)
              show zB _ _ _ _ _ _ [_, _, _] _ _
              refine z_callV (y2 := 225) (as := [_, _]) (rest := []) (pc2 := 140) rfl rfl rfl rfl t56 rfl ?_
              refine z_inl ?_
              refine z_lv (lv2 := [(0, _), (1, _), (2, _)]) ⟨rfl, rfl, rfl, trivial⟩ ?_
              refine z_aload_n (pc2 := 1) rfl rfl rfl ?_
              refine z_getP (pc2 := 4) rfl rfl rfl rfl t56 ?_
              intro p122 p122e p122k; replace p122k : p122 = some 80 := p122k; clear p122e; subst p122k
              refine z_aload_n (pc2 := 5) rfl rfl rfl ?_
              refine z_getI (pc2 := 8) 0 rfl rfl rfl rfl rfl t56 ?_
              intro v123 e123 r123 k123
              replace k123 : (0 : Int) ≤ v123 ∧ v123 ≤ 40 := k123; clear r123
              replace e123 : k = v123 := by rw [e123]; first | exact hk2 | exact Eq.symm hk2 | (simp [zU]; first | done | exact hk2 | exact Eq.symm hk2 | omega)
              subst e123
              refine z_iload_n (pc2 := 9) rfl rfl rfl ?_
              refine z_iast (pc2 := 10) rfl rfl t80 (by omega) (by omega) (by decide) (by omega) True.intro ?_
              refine z_aload_n (pc2 := 11) rfl rfl rfl ?_
              refine z_getP (pc2 := 14) rfl rfl rfl rfl t56 ?_
              intro p124 p124e p124k; replace p124k : p124 = some 81 := p124k; clear p124e; subst p124k
              refine z_aload_n (pc2 := 15) rfl rfl rfl ?_
              refine z_getI (pc2 := 18) 0 rfl rfl rfl rfl rfl t56 ?_
              intro v125 e125 r125 k125
              replace k125 : (0 : Int) ≤ v125 ∧ v125 ≤ 40 := k125; clear r125
              replace e125 : k = v125 := by rw [e125]; first | exact hk2 | exact Eq.symm hk2 | (simp [zU]; first | done | exact hk2 | exact Eq.symm hk2 | omega)
              subst e125
              refine z_iload_n (pc2 := 19) rfl rfl rfl ?_
              refine z_iast (pc2 := 20) rfl rfl t81 (by omega) (by omega) (by decide) (by omega) (by show zGd _; first | assumption | exact zGd_0 | (unfold zGd; refine ⟨⟨?_, ?_⟩, ⟨?_, ?_⟩, ?_⟩ <;> omega)) ?_
              refine z_aload_n (pc2 := 21) rfl rfl rfl ?_
              refine z_dup (pc2 := 22) rfl rfl rfl ?_
              refine z_getI (pc2 := 25) 0 rfl rfl rfl rfl rfl t56 ?_
              intro v126 e126 r126 k126
              replace k126 : (0 : Int) ≤ v126 ∧ v126 ≤ 40 := k126; clear r126
              replace e126 : k = v126 := by rw [e126]; first | exact hk2 | exact Eq.symm hk2 | (simp [zU]; first | done | exact hk2 | exact Eq.symm hk2 | omega)
              subst e126
              refine z_iconst (pc2 := 26) rfl rfl ?_
              refine z_iadd (pc2 := 27) rfl rfl ?_
              refine z_putI (pc2 := 30) rfl rfl rfl rfl rfl rfl t56 (by omega) (by show (0 : Int) ≤ _ ∧ _ ≤ 40; omega) ?_
              refine z_ret rfl rfl ?_
              show zB _ _ _ _ _ _ [] _ _
              refine z_goto (pc2 := 363) rfl rfl ?_
              refine z_iload (pc2 := 365) rfl rfl rfl ?_
              refine z_iload (pc2 := 367) rfl rfl rfl ?_
              refine z_iadd (pc2 := 368) rfl rfl ?_
              refine z_istore (lv2 := [(5, _), (8, _), (7, _), (6, _), (0, _), (1, _), (2, _), (3, _), (4, _)]) (pc2 := 370) rfl rfl rfl rfl ?_
              refine z_goto (pc2 := 35) rfl rfl ?_
              refine z_lv (lv2 := [(0, _), (1, _), (2, _), (3, _), (4, _), (5, _)]) ⟨rfl, rfl, rfl, rfl, rfl, rfl, trivial⟩ ?_
              exact ih _ _ _ _ (by omega) (by omega) (by repeat (first | exact zFr_rf _ | assumption | refine zFr_a ?_ (by decide) | refine zFr_f ?_ (by decide) | refine zFr_n ?_ (by omega) | refine zFr_h ?_ (by omega) | refine zFr_tok ?_ (by omega))) (zU_same _ _ _ _) (by omega) (by repeat (first | exact zQt_rf _ | assumption | refine zQt_a ?_ (by decide) | refine zQt_f ?_ (by decide))) (by omega)
            ·
              refine z_iconst (pc2 := 127) rfl rfl ?_
              refine z_iret rfl rfl ?_
              exact hK _ _ _ (by omega) (by repeat (first | exact zFr_rf _ | assumption | refine zFr_a ?_ (by decide) | refine zFr_f ?_ (by decide) | refine zFr_n ?_ (by omega) | refine zFr_h ?_ (by omega) | refine zFr_tok ?_ (by omega))) (by repeat (first | exact zQt_rf _ | assumption | refine zQt_a ?_ (by decide) | refine zQt_f ?_ (by decide)))
        ·
          refine z_aload_n (pc2 := 78) rfl rfl rfl ?_
          refine z_iload (pc2 := 80) rfl rfl rfl ?_
          refine z_bipush (pc2 := 82) rfl rfl (by decide) ?_
          refine z_icmp_ne (t := 89) (pc2 := 85) rfl rfl rfl (by omega) (by omega) (fun c127 => ?_) (fun c127 => by exfalso; omega)
          refine z_iconst (pc2 := 90) rfl rfl ?_
          refine z_iload (pc2 := 92) rfl rfl rfl ?_
          refine z_bipush (pc2 := 94) rfl rfl (by decide) ?_
          refine z_icmp_ne (t := 101) (pc2 := 97) rfl rfl rfl (by omega) (by omega) (fun c128 => ?_) (fun c128 => by exfalso; omega)
          refine z_iconst (pc2 := 102) rfl rfl ?_
          refine z_iload_n (pc2 := 103) rfl rfl rfl ?_
          refine z_iconst (pc2 := 104) rfl rfl ?_
          refine z_callS (y2 := 170) (as := [_, _, _]) (rest := [_, _]) (pc2 := 107) rfl rfl rfl rfl ?_
          refine m_sort (by omega) (by omega) (by omega) (by omega) (by omega) (fun w129 w129r w129g => ?_)
          show zB _ _ _ _ _ _ [_, _, _] _ _
          refine z_callV (y2 := 225) (as := [_, _]) (rest := []) (pc2 := 110) rfl rfl rfl rfl t56 rfl ?_
          refine z_inl ?_
          refine z_lv (lv2 := [(0, _), (1, _), (2, _)]) ⟨rfl, rfl, rfl, trivial⟩ ?_
          refine z_aload_n (pc2 := 1) rfl rfl rfl ?_
          refine z_getP (pc2 := 4) rfl rfl rfl rfl t56 ?_
          intro p130 p130e p130k; replace p130k : p130 = some 80 := p130k; clear p130e; subst p130k
          refine z_aload_n (pc2 := 5) rfl rfl rfl ?_
          refine z_getI (pc2 := 8) 0 rfl rfl rfl rfl rfl t56 ?_
          intro v131 e131 r131 k131
          replace k131 : (0 : Int) ≤ v131 ∧ v131 ≤ 40 := k131; clear r131
          replace e131 : k = v131 := by rw [e131]; first | exact hk2 | exact Eq.symm hk2 | (simp [zU]; first | done | exact hk2 | exact Eq.symm hk2 | omega)
          subst e131
          refine z_iload_n (pc2 := 9) rfl rfl rfl ?_
          refine z_iast (pc2 := 10) rfl rfl t80 (by omega) (by omega) (by decide) (by omega) True.intro ?_
          refine z_aload_n (pc2 := 11) rfl rfl rfl ?_
          refine z_getP (pc2 := 14) rfl rfl rfl rfl t56 ?_
          intro p132 p132e p132k; replace p132k : p132 = some 81 := p132k; clear p132e; subst p132k
          refine z_aload_n (pc2 := 15) rfl rfl rfl ?_
          refine z_getI (pc2 := 18) 0 rfl rfl rfl rfl rfl t56 ?_
          intro v133 e133 r133 k133
          replace k133 : (0 : Int) ≤ v133 ∧ v133 ≤ 40 := k133; clear r133
          replace e133 : k = v133 := by rw [e133]; first | exact hk2 | exact Eq.symm hk2 | (simp [zU]; first | done | exact hk2 | exact Eq.symm hk2 | omega)
          subst e133
          refine z_iload_n (pc2 := 19) rfl rfl rfl ?_
          refine z_iast (pc2 := 20) rfl rfl t81 (by omega) (by omega) (by decide) (by omega) (by show zGd _; first | assumption | exact zGd_0 | (unfold zGd; refine ⟨⟨?_, ?_⟩, ⟨?_, ?_⟩, ?_⟩ <;> omega)) ?_
          refine z_aload_n (pc2 := 21) rfl rfl rfl ?_
          refine z_dup (pc2 := 22) rfl rfl rfl ?_
          refine z_getI (pc2 := 25) 0 rfl rfl rfl rfl rfl t56 ?_
          intro v134 e134 r134 k134
          replace k134 : (0 : Int) ≤ v134 ∧ v134 ≤ 40 := k134; clear r134
          replace e134 : k = v134 := by rw [e134]; first | exact hk2 | exact Eq.symm hk2 | (simp [zU]; first | done | exact hk2 | exact Eq.symm hk2 | omega)
          subst e134
          refine z_iconst (pc2 := 26) rfl rfl ?_
          refine z_iadd (pc2 := 27) rfl rfl ?_
          refine z_putI (pc2 := 30) rfl rfl rfl rfl rfl rfl t56 (by omega) (by show (0 : Int) ≤ _ ∧ _ ≤ 40; omega) ?_
          refine z_ret rfl rfl ?_
          show zB _ _ _ _ _ _ [] _ _
          refine z_goto (pc2 := 363) rfl rfl ?_
          refine z_iload (pc2 := 365) rfl rfl rfl ?_
          refine z_iload (pc2 := 367) rfl rfl rfl ?_
          refine z_iadd (pc2 := 368) rfl rfl ?_
          refine z_istore (lv2 := [(5, _), (8, _), (7, _), (6, _), (0, _), (1, _), (2, _), (3, _), (4, _)]) (pc2 := 370) rfl rfl rfl rfl ?_
          refine z_goto (pc2 := 35) rfl rfl ?_
          refine z_lv (lv2 := [(0, _), (1, _), (2, _), (3, _), (4, _), (5, _)]) ⟨rfl, rfl, rfl, rfl, rfl, rfl, trivial⟩ ?_
          exact ih _ _ _ _ (by omega) (by omega) (by repeat (first | exact zFr_rf _ | assumption | refine zFr_a ?_ (by decide) | refine zFr_f ?_ (by decide) | refine zFr_n ?_ (by omega) | refine zFr_h ?_ (by omega) | refine zFr_tok ?_ (by omega))) (zU_same _ _ _ _) (by omega) (by repeat (first | exact zQt_rf _ | assumption | refine zQt_a ?_ (by decide) | refine zQt_f ?_ (by decide))) (by omega)
set_option maxHeartbeats 8000000 in
theorem m_reads {L : Nat} {xs : Nat → Int32} {n sl : Nat} {T : Nat → zT} {I : Nat → Nat → Int} {P : Nat → Nat → Option Nat} {G : Nat → Nat → Int} {K : List zV → zH → Prop} {p f : Int} (hT : ∀ a, 56 ≤ a → a ≤ 90 → T a = zFix a) (hp : 0 ≤ p ∧ p ≤ 11) (hf : 0 ≤ f ∧ f ≤ 3) (hK : ∀ e I2 G2, (0 ≤ e ∧ e ≤ 3) → zFr I I2 → zQt I I2 → K [.inl e] (n, sl, T, I2, P, G2)) : zX zMd L xs 226 [.inr (.inl (some 56)), .inl p, .inl f] (n, sl, T, I, P, G) K := by
  have t56 : T 56 = (1, 12, [1]) := hT 56 (by decide) (by decide)
  have t61 : T 61 = (2, 0, [8, 2]) := hT 61 (by decide) (by decide)
  have t77 : T 77 = (2, 0, [24, 6]) := hT 77 (by decide) (by decide)
  refine z_inl ?_
  refine z_lv (lv2 := [(0, _), (1, _), (2, _)]) ⟨rfl, rfl, rfl, trivial⟩ ?_
  refine z_aload_n (pc2 := 1) rfl rfl rfl ?_
  refine z_getP (pc2 := 4) rfl rfl rfl rfl t56 ?_
  intro p1 p1e p1k; replace p1k : p1 = some 77 := p1k; clear p1e; subst p1k
  refine z_bipush (pc2 := 6) rfl rfl (by decide) ?_
  refine z_aload_n (pc2 := 7) rfl rfl rfl ?_
  refine z_getI (pc2 := 10) 0 rfl rfl rfl rfl rfl t56 ?_
  intro v2 e2 r2 k2
  clear e2
  replace k2 : (0 : Int) ≤ v2 ∧ v2 ≤ 1 := k2; clear r2
  refine z_imul (pc2 := 11) rfl rfl ?_
  refine z_iload_n (pc2 := 12) rfl rfl rfl ?_
  refine z_iadd (pc2 := 13) rfl rfl ?_
  refine z_iald (pc2 := 14) rfl rfl t77 (by omega) (by omega) (by decide) ?_
  intro v3 e3 r3 k3
  clear e3
  replace k3 : (-1 : Int) ≤ v3 ∧ v3 ≤ 40 := k3; clear r3
  refine z_istore_n (lv2 := [(3, _), (0, _), (1, _), (2, _)]) (pc2 := 15) rfl rfl rfl rfl ?_
  refine z_aload_n (pc2 := 16) rfl rfl rfl ?_
  refine z_getP (pc2 := 19) rfl rfl rfl rfl t56 ?_
  intro p4 p4e p4k; replace p4k : p4 = some 61 := p4k; clear p4e; subst p4k
  refine z_aload_n (pc2 := 20) rfl rfl rfl ?_
  refine z_iload_n (pc2 := 21) rfl rfl rfl ?_
  refine z_callV (y2 := 163) (as := [_]) (rest := [_]) (pc2 := 24) rfl rfl rfl rfl t56 rfl ?_
  refine z_inl ?_
  refine z_lv (lv2 := [(0, _), (1, _)]) ⟨rfl, rfl, trivial⟩ ?_
  refine z_iconst (pc2 := 1) rfl rfl ?_
  refine z_aload_n (pc2 := 2) rfl rfl rfl ?_
  refine z_getI (pc2 := 5) 0 rfl rfl rfl rfl rfl t56 ?_
  intro v5 e5 r5 k5
  clear e5
  replace k5 : (0 : Int) ≤ v5 ∧ v5 ≤ 1 := k5; clear r5
  refine z_imul (pc2 := 6) rfl rfl ?_
  refine z_iload_n (pc2 := 7) rfl rfl rfl ?_
  refine z_iadd (pc2 := 8) rfl rfl ?_
  refine z_iret rfl rfl ?_
  show zB _ _ _ _ _ _ [_, _] _ _
  refine z_iald (pc2 := 25) rfl rfl t61 (by omega) (by omega) (by decide) ?_
  intro v6 e6 r6 k6
  clear e6
  replace k6 : (-1 : Int) ≤ v6 ∧ v6 ≤ 24 := k6; clear r6
  refine z_istore (lv2 := [(4, _), (3, _), (0, _), (1, _), (2, _)]) (pc2 := 27) rfl rfl rfl rfl ?_
  refine z_aload_n (pc2 := 28) rfl rfl rfl ?_
  refine z_iconst (pc2 := 29) rfl rfl ?_
  refine z_putI (pc2 := 32) rfl rfl rfl rfl rfl rfl t56 (by omega) (by show (0 : Int) ≤ _ ∧ _ ≤ 40; omega) ?_
  refine z_iconst (pc2 := 33) rfl rfl ?_
  refine z_istore (lv2 := [(5, _), (4, _), (3, _), (0, _), (1, _), (2, _)]) (pc2 := 35) rfl rfl rfl rfl ?_
  refine z_lv (lv2 := [(0, _), (1, _), (2, _), (3, _), (4, _), (5, _)]) ⟨rfl, rfl, rfl, rfl, rfl, rfl, trivial⟩ ?_
  exact l_reads hT (by omega) (by omega) (by omega) (by omega) hK _ _ _ _ _ (by omega) (by omega) (by repeat (first | exact zFr_rf _ | assumption | refine zFr_a ?_ (by decide) | refine zFr_f ?_ (by decide) | refine zFr_n ?_ (by omega) | refine zFr_h ?_ (by omega) | refine zFr_tok ?_ (by omega))) (zU_same _ _ _ _) (by omega) (by repeat (first | exact zQt_rf _ | assumption | refine zQt_a ?_ (by decide) | refine zQt_f ?_ (by decide))) (Nat.lt_succ_self _)
