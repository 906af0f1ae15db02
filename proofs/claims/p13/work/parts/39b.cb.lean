/-! the class: founts, text, what is told -/
set_option maxHeartbeats 8000000 in
theorem c_TypeRoom_width {L : Nat} {xs : Nat → Int32} {n sl : Nat} {T : Nat → zT} {I : Nat → Nat → Int} {P : Nat → Nat → Option Nat} {G : Nat → Nat → Int} {K : List zV → zH → Prop} {a c d : Int} (hn : 90 ≤ n) (hC : ∀ a, 1 ≤ a → a ≤ 55 → T a = zFixC a) (ha : zR a) (hc : zR c) (hd : zR d) (hK : ∀ e n2 sl2 T2 I2 P2 G2, zCP n T T2 I I2 P P2 → (n ≤ n2 ∧ n2 ≤ n + 0 ∧ sl2 ≤ sl + 0) → K [.inl e] (n2, sl2, T2, I2, P2, G2)) : zX zMd L xs 108 [.inr (.inl (some 1)), .inl a, .inl c, .inl d] (n, sl, T, I, P, G) K := by
  have t1 : T 1 = (1, 11, [1]) := hC 1 (by decide) (by decide)
  refine z_inl ?_
  refine z_lv (lv2 := [(0, _), (1, _), (2, _), (3, _)]) ⟨rfl, rfl, rfl, rfl, trivial⟩ ?_
  refine z_aload_n (pc2 := 1) rfl rfl rfl ?_
  refine z_iload_n (pc2 := 2) rfl rfl rfl ?_
  refine z_iload_n (pc2 := 3) rfl rfl rfl ?_
  refine z_iconst (pc2 := 4) rfl rfl ?_
  refine z_bipush (pc2 := 6) rfl rfl (by decide) ?_
  refine z_callS (y2 := 155) (as := [_, _, _]) (rest := [_, _]) (pc2 := 9) rfl rfl rfl rfl ?_
  refine c_TypeRoom_isOutside (by omega) (by omega) (by omega) (fun e1 e1a e1b e1c => ?_)
  show zB _ _ _ _ _ _ [_, _, _] _ _
  refine z_callV (y2 := 146) (as := [_, _]) (rest := []) (pc2 := 12) rfl rfl rfl rfl t1 rfl ?_
  refine c_TypeRoom_whyNotChange hn hC (by omega) (by omega) (fun w2 w2r w2z => ?_)
  show zB _ _ _ _ _ _ [_] _ _
  refine z_istore (lv2 := [(4, _), (0, _), (1, _), (2, _), (3, _)]) (pc2 := 14) rfl rfl rfl rfl ?_
  refine z_iload (pc2 := 16) rfl rfl rfl ?_
  refine z_if_eq (t := 26) (pc2 := 19) rfl rfl rfl (by omega) (fun c3 => ?_) (fun c3 => ?_)
  ·
    refine z_aload_n (pc2 := 27) rfl rfl rfl ?_
    refine z_getP (pc2 := 30) rfl rfl rfl rfl t1 ?_
    intro p4 p4e p4k
    obtain ⟨b5, rfl, hb5⟩ := zHere p4k
    have tb5 := zRm_t hC hb5
    refine z_getP (pc2 := 33) rfl rfl rfl rfl tb5.1 ?_
    intro p6 p6e p6k
    replace p6k : p6 = some (b5 + 1) := p6k; clear p6e; subst p6k
    refine z_iload_n (pc2 := 34) rfl rfl rfl ?_
    refine z_aald (pc2 := 35) rfl rfl tb5.2.1 rfl (by omega) (by omega) (by omega) ?_
    intro p7 p7e p7k
    rcases p7k with rfl | ⟨q8, rfl, q89, n9, tq8, q8b⟩
    ·
      refine z_astore (lv2 := [(5, _), (4, _), (0, _), (1, _), (2, _), (3, _)]) (pc2 := 37) rfl rfl rfl rfl ?_
      refine z_aload (pc2 := 39) rfl rfl rfl ?_
      refine z_ifnonnull (t := 49) (pc2 := 42) rfl rfl rfl (fun a h => by cases h) (fun _ => ?_)
      refine z_aload_n (pc2 := 43) rfl rfl rfl ?_
      refine z_bipush (pc2 := 45) rfl rfl (by decide) ?_
      refine z_callV (y2 := 143) (as := [_]) (rest := []) (pc2 := 48) rfl rfl rfl rfl t1 rfl ?_
      refine z_inl ?_
      refine z_lv (lv2 := [(0, _), (1, _)]) ⟨rfl, rfl, trivial⟩ ?_
      refine z_aload_n (pc2 := 1) rfl rfl rfl ?_
      refine z_dup (pc2 := 2) rfl rfl rfl ?_
      refine z_getI (pc2 := 5) 0 rfl rfl rfl rfl rfl t1 ?_
      intro v10 e10 r10 k10
      clear k10
      clear e10
      refine z_iconst (pc2 := 6) rfl rfl ?_
      refine z_iadd (pc2 := 7) rfl rfl ?_
      refine z_putI_any (pc2 := 10) rfl rfl rfl rfl rfl rfl t1 (fun _ _ => True.intro) (fun u11 u11r => ?_)
      refine z_aload_n (pc2 := 11) rfl rfl rfl ?_
      refine z_iload_n (pc2 := 12) rfl rfl rfl ?_
      refine z_putI (pc2 := 15) rfl rfl rfl rfl rfl rfl t1 (by omega) True.intro ?_
      refine z_iload_n (pc2 := 16) rfl rfl rfl ?_
      refine z_iret rfl rfl ?_
      show zB _ _ _ _ _ _ [_] _ _
      refine z_iret rfl rfl ?_
      exact hK _ _ _ _ _ _ _ (zCP_q ⟨zTn_rf, (zQi_u (zQi_u zQi_rf (by unfold zIr; omega)) (by unfold zIr; omega)), zQp_rf⟩ (zTm_rf _)) (by omega)
    ·
      replace tq8 : _ = ((1, 3, [n9]) : zT) := tq8
      refine zB_le tq8 trivial (fun q8l => ?_)
      refine z_astore (lv2 := [(5, _), (4, _), (0, _), (1, _), (2, _), (3, _)]) (pc2 := 37) rfl rfl rfl rfl ?_
      refine z_aload (pc2 := 39) rfl rfl rfl ?_
      refine z_ifnonnull (t := 49) (pc2 := 42) rfl rfl rfl (fun _ _ => ?_) (fun h => by cases h)
      refine z_aload (pc2 := 51) rfl rfl rfl ?_
      refine z_iload_n (pc2 := 52) rfl rfl rfl ?_
      refine z_callV (y2 := 37) (as := [_]) (rest := []) (pc2 := 55) rfl rfl rfl rfl tq8 rfl ?_
      refine z_inl ?_
      refine z_lv (lv2 := [(0, _), (1, _)]) ⟨rfl, rfl, trivial⟩ ?_
      refine z_iload_n (pc2 := 1) rfl rfl rfl ?_
      refine z_if_lt (t := 16) (pc2 := 4) rfl rfl rfl (by omega) (fun c12 => ?_) (fun c12 => ?_)
      ·
        refine z_iconst (pc2 := 17) rfl rfl ?_
        refine z_zret rfl rfl (by omega) ?_
        show zB _ _ _ _ _ _ [_] _ _
        refine z_if_ne (t := 65) (pc2 := 58) rfl rfl rfl (by omega) (fun c13 => by exfalso; omega) (fun c13 => ?_)
        refine z_aload_n (pc2 := 59) rfl rfl rfl ?_
        refine z_bipush (pc2 := 61) rfl rfl (by decide) ?_
        refine z_callV (y2 := 143) (as := [_]) (rest := []) (pc2 := 64) rfl rfl rfl rfl t1 rfl ?_
        refine z_inl ?_
        refine z_lv (lv2 := [(0, _), (1, _)]) ⟨rfl, rfl, trivial⟩ ?_
        refine z_aload_n (pc2 := 1) rfl rfl rfl ?_
        refine z_dup (pc2 := 2) rfl rfl rfl ?_
        refine z_getI (pc2 := 5) 0 rfl rfl rfl rfl rfl t1 ?_
        intro v14 e14 r14 k14
        clear k14
        clear e14
        refine z_iconst (pc2 := 6) rfl rfl ?_
        refine z_iadd (pc2 := 7) rfl rfl ?_
        refine z_putI_any (pc2 := 10) rfl rfl rfl rfl rfl rfl t1 (fun _ _ => True.intro) (fun u15 u15r => ?_)
        refine z_aload_n (pc2 := 11) rfl rfl rfl ?_
        refine z_iload_n (pc2 := 12) rfl rfl rfl ?_
        refine z_putI (pc2 := 15) rfl rfl rfl rfl rfl rfl t1 (by omega) True.intro ?_
        refine z_iload_n (pc2 := 16) rfl rfl rfl ?_
        refine z_iret rfl rfl ?_
        show zB _ _ _ _ _ _ [_] _ _
        refine z_iret rfl rfl ?_
        exact hK _ _ _ _ _ _ _ (zCP_q ⟨zTn_rf, (zQi_u (zQi_u zQi_rf (by unfold zIr; omega)) (by unfold zIr; omega)), zQp_rf⟩ (zTm_rf _)) (by omega)
      ·
        refine z_iload_n (pc2 := 5) rfl rfl rfl ?_
        refine z_aload_n (pc2 := 6) rfl rfl rfl ?_
        refine z_getI (pc2 := 9) 0 rfl rfl rfl rfl rfl tq8 ?_
        intro v16 e16 r16 k16
        replace k16 : n9 = v16 := Eq.symm k16
        subst k16
        refine z_icmp_ge (t := 16) (pc2 := 12) rfl rfl rfl (by omega) (by omega) (fun c17 => ?_) (fun c17 => ?_)
        ·
          refine z_iconst (pc2 := 17) rfl rfl ?_
          refine z_zret rfl rfl (by omega) ?_
          show zB _ _ _ _ _ _ [_] _ _
          refine z_if_ne (t := 65) (pc2 := 58) rfl rfl rfl (by omega) (fun c18 => by exfalso; omega) (fun c18 => ?_)
          refine z_aload_n (pc2 := 59) rfl rfl rfl ?_
          refine z_bipush (pc2 := 61) rfl rfl (by decide) ?_
          refine z_callV (y2 := 143) (as := [_]) (rest := []) (pc2 := 64) rfl rfl rfl rfl t1 rfl ?_
          refine z_inl ?_
          refine z_lv (lv2 := [(0, _), (1, _)]) ⟨rfl, rfl, trivial⟩ ?_
          refine z_aload_n (pc2 := 1) rfl rfl rfl ?_
          refine z_dup (pc2 := 2) rfl rfl rfl ?_
          refine z_getI (pc2 := 5) 0 rfl rfl rfl rfl rfl t1 ?_
          intro v19 e19 r19 k19
          clear k19
          clear e19
          refine z_iconst (pc2 := 6) rfl rfl ?_
          refine z_iadd (pc2 := 7) rfl rfl ?_
          refine z_putI_any (pc2 := 10) rfl rfl rfl rfl rfl rfl t1 (fun _ _ => True.intro) (fun u20 u20r => ?_)
          refine z_aload_n (pc2 := 11) rfl rfl rfl ?_
          refine z_iload_n (pc2 := 12) rfl rfl rfl ?_
          refine z_putI (pc2 := 15) rfl rfl rfl rfl rfl rfl t1 (by omega) True.intro ?_
          refine z_iload_n (pc2 := 16) rfl rfl rfl ?_
          refine z_iret rfl rfl ?_
          show zB _ _ _ _ _ _ [_] _ _
          refine z_iret rfl rfl ?_
          exact hK _ _ _ _ _ _ _ (zCP_q ⟨zTn_rf, (zQi_u (zQi_u zQi_rf (by unfold zIr; omega)) (by unfold zIr; omega)), zQp_rf⟩ (zTm_rf _)) (by omega)
        ·
          refine z_iconst (pc2 := 13) rfl rfl ?_
          refine z_goto (pc2 := 17) rfl rfl ?_
          refine z_zret rfl rfl (by omega) ?_
          show zB _ _ _ _ _ _ [_] _ _
          refine z_if_ne (t := 65) (pc2 := 58) rfl rfl rfl (by omega) (fun c21 => ?_) (fun c21 => by exfalso; omega)
          refine z_aload (pc2 := 67) rfl rfl rfl ?_
          refine z_getP (pc2 := 70) rfl rfl rfl rfl tq8 ?_
          intro p22 p22e p22k
          obtain ⟨q23, rfl, q239, tq23, -⟩ := p22k
          replace tq23 : _ = ((2, 0, [(n9), 0]) : zT) := tq23
          refine zB_le tq23 trivial (fun q23l => ?_)
          refine z_iload_n (pc2 := 71) rfl rfl rfl ?_
          refine z_iald (pc2 := 72) rfl rfl tq23 (by omega) (by omega) (by omega) ?_
          intro v24 e24 r24 k24
          clear k24
          clear e24
          refine z_istore (lv2 := [(6, _), (5, _), (4, _), (0, _), (1, _), (2, _), (3, _)]) (pc2 := 74) rfl rfl rfl rfl ?_
          refine z_aload (pc2 := 76) rfl rfl rfl ?_
          refine z_getP (pc2 := 79) rfl rfl rfl rfl tq8 ?_
          intro p25 p25e p25k
          obtain ⟨q26, rfl, q269, tq26, -⟩ := p25k
          replace tq26 : _ = ((2, 0, [(n9), 0]) : zT) := tq26
          refine zB_le tq26 trivial (fun q26l => ?_)
          refine z_iload_n (pc2 := 80) rfl rfl rfl ?_
          refine z_iload_n (pc2 := 81) rfl rfl rfl ?_
          refine z_iast (pc2 := 82) rfl rfl tq26 (by omega) (by omega) (by omega) (by omega) True.intro ?_
          refine z_aload_n (pc2 := 83) rfl rfl rfl ?_
          refine z_iload (pc2 := 85) rfl rfl rfl ?_
          refine z_callV (y2 := 145) (as := [_]) (rest := []) (pc2 := 88) rfl rfl rfl rfl t1 rfl ?_
          refine z_inl ?_
          refine z_lv (lv2 := [(0, _), (1, _)]) ⟨rfl, rfl, trivial⟩ ?_
          refine z_aload_n (pc2 := 1) rfl rfl rfl ?_
          refine z_getP (pc2 := 4) rfl rfl rfl rfl t1 ?_
          intro p27 p27e p27k
          clear p27k; replace p27e : p27 = some b5 := by rw [p27e]; first | exact p4e | exact Eq.symm p4e | (simp [zU]; first | done | exact p4e | exact Eq.symm p4e | omega)
          subst p27e
          refine z_iconst (pc2 := 5) rfl rfl ?_
          refine z_putZ (pc2 := 8) rfl rfl rfl rfl rfl rfl tb5.1 (by omega) True.intro ?_
          refine z_aload_n (pc2 := 9) rfl rfl rfl ?_
          refine z_iload_n (pc2 := 10) rfl rfl rfl ?_
          refine z_callV (y2 := 144) (as := [_]) (rest := []) (pc2 := 13) rfl rfl rfl rfl t1 rfl ?_
          refine z_inl ?_
          refine z_lv (lv2 := [(0, _), (1, _)]) ⟨rfl, rfl, trivial⟩ ?_
          refine z_aload_n (pc2 := 1) rfl rfl rfl ?_
          refine z_iconst (pc2 := 2) rfl rfl ?_
          refine z_putI (pc2 := 5) rfl rfl rfl rfl rfl rfl t1 (by omega) True.intro ?_
          refine z_iload_n (pc2 := 6) rfl rfl rfl ?_
          refine z_iret rfl rfl ?_
          show zB _ _ _ _ _ _ [_] _ _
          refine z_iret rfl rfl ?_
          show zB _ _ _ _ _ _ [_] _ _
          refine z_iret rfl rfl ?_
          exact hK _ _ _ _ _ _ _ (zCP_q ⟨zTn_rf, (zQi_u (zQi_u (zQi_u zQi_rf (by unfold zIr; omega)) (by unfold zIr; omega)) (by unfold zIr; omega)), zQp_rf⟩ (zTm_rf _)) (by omega)
  ·
    refine z_aload_n (pc2 := 20) rfl rfl rfl ?_
    refine z_iload (pc2 := 22) rfl rfl rfl ?_
    refine z_callV (y2 := 142) (as := [_]) (rest := []) (pc2 := 25) rfl rfl rfl rfl t1 rfl ?_
    refine z_inl ?_
    refine z_lv (lv2 := [(0, _), (1, _)]) ⟨rfl, rfl, trivial⟩ ?_
    refine z_aload_n (pc2 := 1) rfl rfl rfl ?_
    refine z_iload_n (pc2 := 2) rfl rfl rfl ?_
    refine z_putI (pc2 := 5) rfl rfl rfl rfl rfl rfl t1 (by omega) True.intro ?_
    refine z_iload_n (pc2 := 6) rfl rfl rfl ?_
    refine z_iret rfl rfl ?_
    show zB _ _ _ _ _ _ [_] _ _
    refine z_iret rfl rfl ?_
    exact hK _ _ _ _ _ _ _ (zCP_q ⟨zTn_rf, (zQi_u zQi_rf (by unfold zIr; omega)), zQp_rf⟩ (zTm_rf _)) (by omega)
set_option maxHeartbeats 8000000 in
theorem c_TypeRoom_kern {L : Nat} {xs : Nat → Int32} {n sl : Nat} {T : Nat → zT} {I : Nat → Nat → Int} {P : Nat → Nat → Option Nat} {G : Nat → Nat → Int} {K : List zV → zH → Prop} {a c d e : Int} (hn : 90 ≤ n) (hC : ∀ a, 1 ≤ a → a ≤ 55 → T a = zFixC a) (ha : zR a) (hc : zR c) (hd : zR d) (he : zR e) (hK : ∀ e n2 sl2 T2 I2 P2 G2, zCP n T T2 I I2 P P2 → (n ≤ n2 ∧ n2 ≤ n + 0 ∧ sl2 ≤ sl + 0) → K [.inl e] (n2, sl2, T2, I2, P2, G2)) : zX zMd L xs 110 [.inr (.inl (some 1)), .inl a, .inl c, .inl d, .inl e] (n, sl, T, I, P, G) K := by
  have t1 : T 1 = (1, 11, [1]) := hC 1 (by decide) (by decide)
  refine z_inl ?_
  refine z_lv (lv2 := [(0, _), (1, _), (2, _), (3, _), (4, _)]) ⟨rfl, rfl, rfl, rfl, rfl, trivial⟩ ?_
  refine z_aload_n (pc2 := 1) rfl rfl rfl ?_
  refine z_iload_n (pc2 := 2) rfl rfl rfl ?_
  refine z_iload (pc2 := 4) rfl rfl rfl ?_
  refine z_bipush (pc2 := 6) rfl rfl (by decide) ?_
  refine z_bipush (pc2 := 8) rfl rfl (by decide) ?_
  refine z_callS (y2 := 155) (as := [_, _, _]) (rest := [_, _]) (pc2 := 11) rfl rfl rfl rfl ?_
  refine c_TypeRoom_isOutside (by omega) (by omega) (by omega) (fun e1 e1a e1b e1c => ?_)
  show zB _ _ _ _ _ _ [_, _, _] _ _
  refine z_callV (y2 := 146) (as := [_, _]) (rest := []) (pc2 := 14) rfl rfl rfl rfl t1 rfl ?_
  refine c_TypeRoom_whyNotChange hn hC (by omega) (by omega) (fun w2 w2r w2z => ?_)
  show zB _ _ _ _ _ _ [_] _ _
  refine z_istore (lv2 := [(5, _), (0, _), (1, _), (2, _), (3, _), (4, _)]) (pc2 := 16) rfl rfl rfl rfl ?_
  refine z_iload (pc2 := 18) rfl rfl rfl ?_
  refine z_if_eq (t := 28) (pc2 := 21) rfl rfl rfl (by omega) (fun c3 => ?_) (fun c3 => ?_)
  ·
    refine z_aload_n (pc2 := 29) rfl rfl rfl ?_
    refine z_getP (pc2 := 32) rfl rfl rfl rfl t1 ?_
    intro p4 p4e p4k
    obtain ⟨b5, rfl, hb5⟩ := zHere p4k
    have tb5 := zRm_t hC hb5
    refine z_getP (pc2 := 35) rfl rfl rfl rfl tb5.1 ?_
    intro p6 p6e p6k
    replace p6k : p6 = some (b5 + 1) := p6k; clear p6e; subst p6k
    refine z_iload_n (pc2 := 36) rfl rfl rfl ?_
    refine z_aald (pc2 := 37) rfl rfl tb5.2.1 rfl (by omega) (by omega) (by omega) ?_
    intro p7 p7e p7k
    rcases p7k with rfl | ⟨q8, rfl, q89, n9, tq8, q8b⟩
    ·
      refine z_astore (lv2 := [(6, _), (5, _), (0, _), (1, _), (2, _), (3, _), (4, _)]) (pc2 := 39) rfl rfl rfl rfl ?_
      refine z_aload (pc2 := 41) rfl rfl rfl ?_
      refine z_ifnonnull (t := 51) (pc2 := 44) rfl rfl rfl (fun a h => by cases h) (fun _ => ?_)
      refine z_aload_n (pc2 := 45) rfl rfl rfl ?_
      refine z_bipush (pc2 := 47) rfl rfl (by decide) ?_
      refine z_callV (y2 := 143) (as := [_]) (rest := []) (pc2 := 50) rfl rfl rfl rfl t1 rfl ?_
      refine z_inl ?_
      refine z_lv (lv2 := [(0, _), (1, _)]) ⟨rfl, rfl, trivial⟩ ?_
      refine z_aload_n (pc2 := 1) rfl rfl rfl ?_
      refine z_dup (pc2 := 2) rfl rfl rfl ?_
      refine z_getI (pc2 := 5) 0 rfl rfl rfl rfl rfl t1 ?_
      intro v10 e10 r10 k10
      clear k10
      clear e10
      refine z_iconst (pc2 := 6) rfl rfl ?_
      refine z_iadd (pc2 := 7) rfl rfl ?_
      refine z_putI_any (pc2 := 10) rfl rfl rfl rfl rfl rfl t1 (fun _ _ => True.intro) (fun u11 u11r => ?_)
      refine z_aload_n (pc2 := 11) rfl rfl rfl ?_
      refine z_iload_n (pc2 := 12) rfl rfl rfl ?_
      refine z_putI (pc2 := 15) rfl rfl rfl rfl rfl rfl t1 (by omega) True.intro ?_
      refine z_iload_n (pc2 := 16) rfl rfl rfl ?_
      refine z_iret rfl rfl ?_
      show zB _ _ _ _ _ _ [_] _ _
      refine z_iret rfl rfl ?_
      exact hK _ _ _ _ _ _ _ (zCP_q ⟨zTn_rf, (zQi_u (zQi_u zQi_rf (by unfold zIr; omega)) (by unfold zIr; omega)), zQp_rf⟩ (zTm_rf _)) (by omega)
    ·
      replace tq8 : _ = ((1, 3, [n9]) : zT) := tq8
      refine zB_le tq8 trivial (fun q8l => ?_)
      refine z_astore (lv2 := [(6, _), (5, _), (0, _), (1, _), (2, _), (3, _), (4, _)]) (pc2 := 39) rfl rfl rfl rfl ?_
      refine z_aload (pc2 := 41) rfl rfl rfl ?_
      refine z_ifnonnull (t := 51) (pc2 := 44) rfl rfl rfl (fun _ _ => ?_) (fun h => by cases h)
      refine z_aload (pc2 := 53) rfl rfl rfl ?_
      refine z_iload_n (pc2 := 54) rfl rfl rfl ?_
      refine z_callV (y2 := 37) (as := [_]) (rest := []) (pc2 := 57) rfl rfl rfl rfl tq8 rfl ?_
      refine z_inl ?_
      refine z_lv (lv2 := [(0, _), (1, _)]) ⟨rfl, rfl, trivial⟩ ?_
      refine z_iload_n (pc2 := 1) rfl rfl rfl ?_
      refine z_if_lt (t := 16) (pc2 := 4) rfl rfl rfl (by omega) (fun c12 => ?_) (fun c12 => ?_)
      ·
        refine z_iconst (pc2 := 17) rfl rfl ?_
        refine z_zret rfl rfl (by omega) ?_
        show zB _ _ _ _ _ _ [_] _ _
        refine z_if_ne (t := 67) (pc2 := 60) rfl rfl rfl (by omega) (fun c13 => by exfalso; omega) (fun c13 => ?_)
        refine z_aload_n (pc2 := 61) rfl rfl rfl ?_
        refine z_bipush (pc2 := 63) rfl rfl (by decide) ?_
        refine z_callV (y2 := 143) (as := [_]) (rest := []) (pc2 := 66) rfl rfl rfl rfl t1 rfl ?_
        refine z_inl ?_
        refine z_lv (lv2 := [(0, _), (1, _)]) ⟨rfl, rfl, trivial⟩ ?_
        refine z_aload_n (pc2 := 1) rfl rfl rfl ?_
        refine z_dup (pc2 := 2) rfl rfl rfl ?_
        refine z_getI (pc2 := 5) 0 rfl rfl rfl rfl rfl t1 ?_
        intro v14 e14 r14 k14
        clear k14
        clear e14
        refine z_iconst (pc2 := 6) rfl rfl ?_
        refine z_iadd (pc2 := 7) rfl rfl ?_
        refine z_putI_any (pc2 := 10) rfl rfl rfl rfl rfl rfl t1 (fun _ _ => True.intro) (fun u15 u15r => ?_)
        refine z_aload_n (pc2 := 11) rfl rfl rfl ?_
        refine z_iload_n (pc2 := 12) rfl rfl rfl ?_
        refine z_putI (pc2 := 15) rfl rfl rfl rfl rfl rfl t1 (by omega) True.intro ?_
        refine z_iload_n (pc2 := 16) rfl rfl rfl ?_
        refine z_iret rfl rfl ?_
        show zB _ _ _ _ _ _ [_] _ _
        refine z_iret rfl rfl ?_
        exact hK _ _ _ _ _ _ _ (zCP_q ⟨zTn_rf, (zQi_u (zQi_u zQi_rf (by unfold zIr; omega)) (by unfold zIr; omega)), zQp_rf⟩ (zTm_rf _)) (by omega)
      ·
        refine z_iload_n (pc2 := 5) rfl rfl rfl ?_
        refine z_aload_n (pc2 := 6) rfl rfl rfl ?_
        refine z_getI (pc2 := 9) 0 rfl rfl rfl rfl rfl tq8 ?_
        intro v16 e16 r16 k16
        replace k16 : n9 = v16 := Eq.symm k16
        subst k16
        refine z_icmp_ge (t := 16) (pc2 := 12) rfl rfl rfl (by omega) (by omega) (fun c17 => ?_) (fun c17 => ?_)
        ·
          refine z_iconst (pc2 := 17) rfl rfl ?_
          refine z_zret rfl rfl (by omega) ?_
          show zB _ _ _ _ _ _ [_] _ _
          refine z_if_ne (t := 67) (pc2 := 60) rfl rfl rfl (by omega) (fun c18 => by exfalso; omega) (fun c18 => ?_)
          refine z_aload_n (pc2 := 61) rfl rfl rfl ?_
          refine z_bipush (pc2 := 63) rfl rfl (by decide) ?_
          refine z_callV (y2 := 143) (as := [_]) (rest := []) (pc2 := 66) rfl rfl rfl rfl t1 rfl ?_
          refine z_inl ?_
          refine z_lv (lv2 := [(0, _), (1, _)]) ⟨rfl, rfl, trivial⟩ ?_
          refine z_aload_n (pc2 := 1) rfl rfl rfl ?_
          refine z_dup (pc2 := 2) rfl rfl rfl ?_
          refine z_getI (pc2 := 5) 0 rfl rfl rfl rfl rfl t1 ?_
          intro v19 e19 r19 k19
          clear k19
          clear e19
          refine z_iconst (pc2 := 6) rfl rfl ?_
          refine z_iadd (pc2 := 7) rfl rfl ?_
          refine z_putI_any (pc2 := 10) rfl rfl rfl rfl rfl rfl t1 (fun _ _ => True.intro) (fun u20 u20r => ?_)
          refine z_aload_n (pc2 := 11) rfl rfl rfl ?_
          refine z_iload_n (pc2 := 12) rfl rfl rfl ?_
          refine z_putI (pc2 := 15) rfl rfl rfl rfl rfl rfl t1 (by omega) True.intro ?_
          refine z_iload_n (pc2 := 16) rfl rfl rfl ?_
          refine z_iret rfl rfl ?_
          show zB _ _ _ _ _ _ [_] _ _
          refine z_iret rfl rfl ?_
          exact hK _ _ _ _ _ _ _ (zCP_q ⟨zTn_rf, (zQi_u (zQi_u zQi_rf (by unfold zIr; omega)) (by unfold zIr; omega)), zQp_rf⟩ (zTm_rf _)) (by omega)
        ·
          refine z_iconst (pc2 := 13) rfl rfl ?_
          refine z_goto (pc2 := 17) rfl rfl ?_
          refine z_zret rfl rfl (by omega) ?_
          show zB _ _ _ _ _ _ [_] _ _
          refine z_if_ne (t := 67) (pc2 := 60) rfl rfl rfl (by omega) (fun c21 => ?_) (fun c21 => by exfalso; omega)
          refine z_aload (pc2 := 69) rfl rfl rfl ?_
          refine z_getP (pc2 := 72) rfl rfl rfl rfl tq8 ?_
          intro p22 p22e p22k
          obtain ⟨q23, rfl, q239, tq23, -⟩ := p22k
          replace tq23 : _ = ((2, 3, [(n9), 2]) : zT) := tq23
          refine zB_le tq23 trivial (fun q23l => ?_)
          refine z_iload_n (pc2 := 73) rfl rfl rfl ?_
          refine z_aald (pc2 := 74) rfl rfl tq23 rfl (by omega) (by omega) (by omega) ?_
          intro p24 p24e p24k
          rcases p24k with rfl | ⟨q25, rfl, q259, m26, tq25, q25b⟩
          ·
            refine z_astore (lv2 := [(7, _), (6, _), (5, _), (0, _), (1, _), (2, _), (3, _), (4, _)]) (pc2 := 76) rfl rfl rfl rfl ?_
            refine z_aload (pc2 := 78) rfl rfl rfl ?_
            refine z_ifnonnull (t := 88) (pc2 := 81) rfl rfl rfl (fun a h => by cases h) (fun _ => ?_)
            refine z_aload_n (pc2 := 82) rfl rfl rfl ?_
            refine z_bipush (pc2 := 84) rfl rfl (by decide) ?_
            refine z_callV (y2 := 143) (as := [_]) (rest := []) (pc2 := 87) rfl rfl rfl rfl t1 rfl ?_
            refine z_inl ?_
            refine z_lv (lv2 := [(0, _), (1, _)]) ⟨rfl, rfl, trivial⟩ ?_
            refine z_aload_n (pc2 := 1) rfl rfl rfl ?_
            refine z_dup (pc2 := 2) rfl rfl rfl ?_
            refine z_getI (pc2 := 5) 0 rfl rfl rfl rfl rfl t1 ?_
            intro v27 e27 r27 k27
            clear k27
            clear e27
            refine z_iconst (pc2 := 6) rfl rfl ?_
            refine z_iadd (pc2 := 7) rfl rfl ?_
            refine z_putI_any (pc2 := 10) rfl rfl rfl rfl rfl rfl t1 (fun _ _ => True.intro) (fun u28 u28r => ?_)
            refine z_aload_n (pc2 := 11) rfl rfl rfl ?_
            refine z_iload_n (pc2 := 12) rfl rfl rfl ?_
            refine z_putI (pc2 := 15) rfl rfl rfl rfl rfl rfl t1 (by omega) True.intro ?_
            refine z_iload_n (pc2 := 16) rfl rfl rfl ?_
            refine z_iret rfl rfl ?_
            show zB _ _ _ _ _ _ [_] _ _
            refine z_iret rfl rfl ?_
            exact hK _ _ _ _ _ _ _ (zCP_q ⟨zTn_rf, (zQi_u (zQi_u zQi_rf (by unfold zIr; omega)) (by unfold zIr; omega)), zQp_rf⟩ (zTm_rf _)) (by omega)
          ·
            replace tq25 : _ = ((2, 0, [(m26), 0]) : zT) := tq25
            refine zB_le tq25 trivial (fun q25l => ?_)
            refine z_astore (lv2 := [(7, _), (6, _), (5, _), (0, _), (1, _), (2, _), (3, _), (4, _)]) (pc2 := 76) rfl rfl rfl rfl ?_
            refine z_aload (pc2 := 78) rfl rfl rfl ?_
            refine z_ifnonnull (t := 88) (pc2 := 81) rfl rfl rfl (fun _ _ => ?_) (fun h => by cases h)
            refine z_iload_n (pc2 := 89) rfl rfl rfl ?_
            refine z_iconst (pc2 := 90) rfl rfl ?_
            refine z_aload (pc2 := 92) rfl rfl rfl ?_
            refine z_alen (pc2 := 93) rfl rfl tq25 rfl (by omega) ?_
            refine z_iconst (pc2 := 94) rfl rfl ?_
            refine z_isub (pc2 := 95) rfl rfl ?_
            refine z_callS (y2 := 155) (as := [_, _, _]) (rest := []) (pc2 := 98) rfl rfl rfl rfl ?_
            refine c_TypeRoom_isOutside (by omega) (by omega) (by omega) (fun e29 e29a e29b e29c => ?_)
            show zB _ _ _ _ _ _ [_] _ _
            refine z_if_eq (t := 108) (pc2 := 101) rfl rfl rfl (by omega) (fun c30 => ?_) (fun c30 => ?_)
            ·
              refine z_aload (pc2 := 110) rfl rfl rfl ?_
              refine z_iload_n (pc2 := 111) rfl rfl rfl ?_
              refine z_iload (pc2 := 113) rfl rfl rfl ?_
              refine z_iast (pc2 := 114) rfl rfl tq25 (by omega) (by omega) (by omega) (by omega) True.intro ?_
              refine z_aload_n (pc2 := 115) rfl rfl rfl ?_
              refine z_iconst (pc2 := 116) rfl rfl ?_
              refine z_callV (y2 := 145) (as := [_]) (rest := []) (pc2 := 119) rfl rfl rfl rfl t1 rfl ?_
              refine z_inl ?_
              refine z_lv (lv2 := [(0, _), (1, _)]) ⟨rfl, rfl, trivial⟩ ?_
              refine z_aload_n (pc2 := 1) rfl rfl rfl ?_
              refine z_getP (pc2 := 4) rfl rfl rfl rfl t1 ?_
              intro p31 p31e p31k
              clear p31k; replace p31e : p31 = some b5 := by rw [p31e]; first | exact p4e | exact Eq.symm p4e | (simp [zU]; first | done | exact p4e | exact Eq.symm p4e | omega)
              subst p31e
              refine z_iconst (pc2 := 5) rfl rfl ?_
              refine z_putZ (pc2 := 8) rfl rfl rfl rfl rfl rfl tb5.1 (by omega) True.intro ?_
              refine z_aload_n (pc2 := 9) rfl rfl rfl ?_
              refine z_iload_n (pc2 := 10) rfl rfl rfl ?_
              refine z_callV (y2 := 144) (as := [_]) (rest := []) (pc2 := 13) rfl rfl rfl rfl t1 rfl ?_
              refine z_inl ?_
              refine z_lv (lv2 := [(0, _), (1, _)]) ⟨rfl, rfl, trivial⟩ ?_
              refine z_aload_n (pc2 := 1) rfl rfl rfl ?_
              refine z_iconst (pc2 := 2) rfl rfl ?_
              refine z_putI (pc2 := 5) rfl rfl rfl rfl rfl rfl t1 (by omega) True.intro ?_
              refine z_iload_n (pc2 := 6) rfl rfl rfl ?_
              refine z_iret rfl rfl ?_
              show zB _ _ _ _ _ _ [_] _ _
              refine z_iret rfl rfl ?_
              show zB _ _ _ _ _ _ [_] _ _
              refine z_iret rfl rfl ?_
              exact hK _ _ _ _ _ _ _ (zCP_q ⟨zTn_rf, (zQi_u (zQi_u (zQi_u zQi_rf (by unfold zIr; omega)) (by unfold zIr; omega)) (by unfold zIr; omega)), zQp_rf⟩ (zTm_rf _)) (by omega)
            ·
              refine z_aload_n (pc2 := 102) rfl rfl rfl ?_
              refine z_bipush (pc2 := 104) rfl rfl (by decide) ?_
              refine z_callV (y2 := 143) (as := [_]) (rest := []) (pc2 := 107) rfl rfl rfl rfl t1 rfl ?_
              refine z_inl ?_
              refine z_lv (lv2 := [(0, _), (1, _)]) ⟨rfl, rfl, trivial⟩ ?_
              refine z_aload_n (pc2 := 1) rfl rfl rfl ?_
              refine z_dup (pc2 := 2) rfl rfl rfl ?_
              refine z_getI (pc2 := 5) 0 rfl rfl rfl rfl rfl t1 ?_
              intro v32 e32 r32 k32
              clear k32
              clear e32
              refine z_iconst (pc2 := 6) rfl rfl ?_
              refine z_iadd (pc2 := 7) rfl rfl ?_
              refine z_putI_any (pc2 := 10) rfl rfl rfl rfl rfl rfl t1 (fun _ _ => True.intro) (fun u33 u33r => ?_)
              refine z_aload_n (pc2 := 11) rfl rfl rfl ?_
              refine z_iload_n (pc2 := 12) rfl rfl rfl ?_
              refine z_putI (pc2 := 15) rfl rfl rfl rfl rfl rfl t1 (by omega) True.intro ?_
              refine z_iload_n (pc2 := 16) rfl rfl rfl ?_
              refine z_iret rfl rfl ?_
              show zB _ _ _ _ _ _ [_] _ _
              refine z_iret rfl rfl ?_
              exact hK _ _ _ _ _ _ _ (zCP_q ⟨zTn_rf, (zQi_u (zQi_u zQi_rf (by unfold zIr; omega)) (by unfold zIr; omega)), zQp_rf⟩ (zTm_rf _)) (by omega)
  ·
    refine z_aload_n (pc2 := 22) rfl rfl rfl ?_
    refine z_iload (pc2 := 24) rfl rfl rfl ?_
    refine z_callV (y2 := 142) (as := [_]) (rest := []) (pc2 := 27) rfl rfl rfl rfl t1 rfl ?_
    refine z_inl ?_
    refine z_lv (lv2 := [(0, _), (1, _)]) ⟨rfl, rfl, trivial⟩ ?_
    refine z_aload_n (pc2 := 1) rfl rfl rfl ?_
    refine z_iload_n (pc2 := 2) rfl rfl rfl ?_
    refine z_putI (pc2 := 5) rfl rfl rfl rfl rfl rfl t1 (by omega) True.intro ?_
    refine z_iload_n (pc2 := 6) rfl rfl rfl ?_
    refine z_iret rfl rfl ?_
    show zB _ _ _ _ _ _ [_] _ _
    refine z_iret rfl rfl ?_
    exact hK _ _ _ _ _ _ _ (zCP_q ⟨zTn_rf, (zQi_u zQi_rf (by unfold zIr; omega)), zQp_rf⟩ (zTm_rf _)) (by omega)
set_option maxHeartbeats 8000000 in
theorem c_TypeRoom_join {L : Nat} {xs : Nat → Int32} {n sl : Nat} {T : Nat → zT} {I : Nat → Nat → Int} {P : Nat → Nat → Option Nat} {G : Nat → Nat → Int} {K : List zV → zH → Prop} {a c d e g : Int} (hn : 90 ≤ n) (hC : ∀ a, 1 ≤ a → a ≤ 55 → T a = zFixC a) (ha : zR a) (hc : zR c) (hd : zR d) (he : zR e) (hg : zR g) (hK : ∀ e n2 sl2 T2 I2 P2 G2, zCP n T T2 I I2 P P2 → (n ≤ n2 ∧ n2 ≤ n + 0 ∧ sl2 ≤ sl + 0) → K [.inl e] (n2, sl2, T2, I2, P2, G2)) : zX zMd L xs 111 [.inr (.inl (some 1)), .inl a, .inl c, .inl d, .inl e, .inl g] (n, sl, T, I, P, G) K := by
  have t1 : T 1 = (1, 11, [1]) := hC 1 (by decide) (by decide)
  refine z_inl ?_
  refine z_lv (lv2 := [(0, _), (1, _), (2, _), (3, _), (4, _), (5, _)]) ⟨rfl, rfl, rfl, rfl, rfl, rfl, trivial⟩ ?_
  refine z_aload_n (pc2 := 1) rfl rfl rfl ?_
  refine z_iload_n (pc2 := 2) rfl rfl rfl ?_
  refine z_iload (pc2 := 4) rfl rfl rfl ?_
  refine z_iconst (pc2 := 5) rfl rfl ?_
  refine z_bipush (pc2 := 7) rfl rfl (by decide) ?_
  refine z_callS (y2 := 155) (as := [_, _, _]) (rest := [_, _]) (pc2 := 10) rfl rfl rfl rfl ?_
  refine c_TypeRoom_isOutside (by omega) (by omega) (by omega) (fun e1 e1a e1b e1c => ?_)
  show zB _ _ _ _ _ _ [_, _, _] _ _
  refine z_callV (y2 := 146) (as := [_, _]) (rest := []) (pc2 := 13) rfl rfl rfl rfl t1 rfl ?_
  refine c_TypeRoom_whyNotChange hn hC (by omega) (by omega) (fun w2 w2r w2z => ?_)
  show zB _ _ _ _ _ _ [_] _ _
  refine z_istore (lv2 := [(6, _), (0, _), (1, _), (2, _), (3, _), (4, _), (5, _)]) (pc2 := 15) rfl rfl rfl rfl ?_
  refine z_iload (pc2 := 17) rfl rfl rfl ?_
  refine z_if_eq (t := 27) (pc2 := 20) rfl rfl rfl (by omega) (fun c3 => ?_) (fun c3 => ?_)
  ·
    refine z_aload_n (pc2 := 28) rfl rfl rfl ?_
    refine z_getP (pc2 := 31) rfl rfl rfl rfl t1 ?_
    intro p4 p4e p4k
    obtain ⟨b5, rfl, hb5⟩ := zHere p4k
    have tb5 := zRm_t hC hb5
    refine z_getP (pc2 := 34) rfl rfl rfl rfl tb5.1 ?_
    intro p6 p6e p6k
    replace p6k : p6 = some (b5 + 1) := p6k; clear p6e; subst p6k
    refine z_iload_n (pc2 := 35) rfl rfl rfl ?_
    refine z_aald (pc2 := 36) rfl rfl tb5.2.1 rfl (by omega) (by omega) (by omega) ?_
    intro p7 p7e p7k
    rcases p7k with rfl | ⟨q8, rfl, q89, n9, tq8, q8b⟩
    ·
      refine z_astore (lv2 := [(7, _), (6, _), (0, _), (1, _), (2, _), (3, _), (4, _), (5, _)]) (pc2 := 38) rfl rfl rfl rfl ?_
      refine z_aload (pc2 := 40) rfl rfl rfl ?_
      refine z_ifnonnull (t := 50) (pc2 := 43) rfl rfl rfl (fun a h => by cases h) (fun _ => ?_)
      refine z_aload_n (pc2 := 44) rfl rfl rfl ?_
      refine z_bipush (pc2 := 46) rfl rfl (by decide) ?_
      refine z_callV (y2 := 143) (as := [_]) (rest := []) (pc2 := 49) rfl rfl rfl rfl t1 rfl ?_
      refine z_inl ?_
      refine z_lv (lv2 := [(0, _), (1, _)]) ⟨rfl, rfl, trivial⟩ ?_
      refine z_aload_n (pc2 := 1) rfl rfl rfl ?_
      refine z_dup (pc2 := 2) rfl rfl rfl ?_
      refine z_getI (pc2 := 5) 0 rfl rfl rfl rfl rfl t1 ?_
      intro v10 e10 r10 k10
      clear k10
      clear e10
      refine z_iconst (pc2 := 6) rfl rfl ?_
      refine z_iadd (pc2 := 7) rfl rfl ?_
      refine z_putI_any (pc2 := 10) rfl rfl rfl rfl rfl rfl t1 (fun _ _ => True.intro) (fun u11 u11r => ?_)
      refine z_aload_n (pc2 := 11) rfl rfl rfl ?_
      refine z_iload_n (pc2 := 12) rfl rfl rfl ?_
      refine z_putI (pc2 := 15) rfl rfl rfl rfl rfl rfl t1 (by omega) True.intro ?_
      refine z_iload_n (pc2 := 16) rfl rfl rfl ?_
      refine z_iret rfl rfl ?_
      show zB _ _ _ _ _ _ [_] _ _
      refine z_iret rfl rfl ?_
      exact hK _ _ _ _ _ _ _ (zCP_q ⟨zTn_rf, (zQi_u (zQi_u zQi_rf (by unfold zIr; omega)) (by unfold zIr; omega)), zQp_rf⟩ (zTm_rf _)) (by omega)
    ·
      replace tq8 : _ = ((1, 3, [n9]) : zT) := tq8
      refine zB_le tq8 trivial (fun q8l => ?_)
      refine z_astore (lv2 := [(7, _), (6, _), (0, _), (1, _), (2, _), (3, _), (4, _), (5, _)]) (pc2 := 38) rfl rfl rfl rfl ?_
      refine z_aload (pc2 := 40) rfl rfl rfl ?_
      refine z_ifnonnull (t := 50) (pc2 := 43) rfl rfl rfl (fun _ _ => ?_) (fun h => by cases h)
      refine z_aload (pc2 := 52) rfl rfl rfl ?_
      refine z_getI (pc2 := 55) 0 rfl rfl rfl rfl rfl tq8 ?_
      intro v12 e12 r12 k12
      replace k12 : (0 ≤ v12 ∧ v12 ≤ 6) ∧ (n9 = 0 → v12 = 0) := k12
      refine z_bipush (pc2 := 57) rfl rfl (by decide) ?_
      refine z_icmp_lt (t := 67) (pc2 := 60) rfl rfl rfl (by omega) (by omega) (fun c13 => ?_) (fun c13 => ?_)
      ·
        refine z_aload (pc2 := 69) rfl rfl rfl ?_
        refine z_iload_n (pc2 := 70) rfl rfl rfl ?_
        refine z_callV (y2 := 37) (as := [_]) (rest := []) (pc2 := 73) rfl rfl rfl rfl tq8 rfl ?_
        refine z_inl ?_
        refine z_lv (lv2 := [(0, _), (1, _)]) ⟨rfl, rfl, trivial⟩ ?_
        refine z_iload_n (pc2 := 1) rfl rfl rfl ?_
        refine z_if_lt (t := 16) (pc2 := 4) rfl rfl rfl (by omega) (fun c14 => ?_) (fun c14 => ?_)
        ·
          refine z_iconst (pc2 := 17) rfl rfl ?_
          refine z_zret rfl rfl (by omega) ?_
          show zB _ _ _ _ _ _ [_] _ _
          refine z_if_eq (t := 101) (pc2 := 76) rfl rfl rfl (by omega) (fun c15 => ?_) (fun c15 => by exfalso; omega)
          refine z_aload_n (pc2 := 102) rfl rfl rfl ?_
          refine z_bipush (pc2 := 104) rfl rfl (by decide) ?_
          refine z_callV (y2 := 143) (as := [_]) (rest := []) (pc2 := 107) rfl rfl rfl rfl t1 rfl ?_
          refine z_inl ?_
          refine z_lv (lv2 := [(0, _), (1, _)]) ⟨rfl, rfl, trivial⟩ ?_
          refine z_aload_n (pc2 := 1) rfl rfl rfl ?_
          refine z_dup (pc2 := 2) rfl rfl rfl ?_
          refine z_getI (pc2 := 5) 0 rfl rfl rfl rfl rfl t1 ?_
          intro v16 e16 r16 k16
          clear k16
          clear e16
          refine z_iconst (pc2 := 6) rfl rfl ?_
          refine z_iadd (pc2 := 7) rfl rfl ?_
          refine z_putI_any (pc2 := 10) rfl rfl rfl rfl rfl rfl t1 (fun _ _ => True.intro) (fun u17 u17r => ?_)
          refine z_aload_n (pc2 := 11) rfl rfl rfl ?_
          refine z_iload_n (pc2 := 12) rfl rfl rfl ?_
          refine z_putI (pc2 := 15) rfl rfl rfl rfl rfl rfl t1 (by omega) True.intro ?_
          refine z_iload_n (pc2 := 16) rfl rfl rfl ?_
          refine z_iret rfl rfl ?_
          show zB _ _ _ _ _ _ [_] _ _
          refine z_iret rfl rfl ?_
          exact hK _ _ _ _ _ _ _ (zCP_q ⟨zTn_rf, (zQi_u (zQi_u zQi_rf (by unfold zIr; omega)) (by unfold zIr; omega)), zQp_rf⟩ (zTm_rf _)) (by omega)
        ·
          refine z_iload_n (pc2 := 5) rfl rfl rfl ?_
          refine z_aload_n (pc2 := 6) rfl rfl rfl ?_
          refine z_getI (pc2 := 9) 0 rfl rfl rfl rfl rfl tq8 ?_
          intro v18 e18 r18 k18
          replace k18 : n9 = v18 := Eq.symm k18
          subst k18
          refine z_icmp_ge (t := 16) (pc2 := 12) rfl rfl rfl (by omega) (by omega) (fun c19 => ?_) (fun c19 => ?_)
          ·
            refine z_iconst (pc2 := 17) rfl rfl ?_
            refine z_zret rfl rfl (by omega) ?_
            show zB _ _ _ _ _ _ [_] _ _
            refine z_if_eq (t := 101) (pc2 := 76) rfl rfl rfl (by omega) (fun c20 => ?_) (fun c20 => by exfalso; omega)
            refine z_aload_n (pc2 := 102) rfl rfl rfl ?_
            refine z_bipush (pc2 := 104) rfl rfl (by decide) ?_
            refine z_callV (y2 := 143) (as := [_]) (rest := []) (pc2 := 107) rfl rfl rfl rfl t1 rfl ?_
            refine z_inl ?_
            refine z_lv (lv2 := [(0, _), (1, _)]) ⟨rfl, rfl, trivial⟩ ?_
            refine z_aload_n (pc2 := 1) rfl rfl rfl ?_
            refine z_dup (pc2 := 2) rfl rfl rfl ?_
            refine z_getI (pc2 := 5) 0 rfl rfl rfl rfl rfl t1 ?_
            intro v21 e21 r21 k21
            clear k21
            clear e21
            refine z_iconst (pc2 := 6) rfl rfl ?_
            refine z_iadd (pc2 := 7) rfl rfl ?_
            refine z_putI_any (pc2 := 10) rfl rfl rfl rfl rfl rfl t1 (fun _ _ => True.intro) (fun u22 u22r => ?_)
            refine z_aload_n (pc2 := 11) rfl rfl rfl ?_
            refine z_iload_n (pc2 := 12) rfl rfl rfl ?_
            refine z_putI (pc2 := 15) rfl rfl rfl rfl rfl rfl t1 (by omega) True.intro ?_
            refine z_iload_n (pc2 := 16) rfl rfl rfl ?_
            refine z_iret rfl rfl ?_
            show zB _ _ _ _ _ _ [_] _ _
            refine z_iret rfl rfl ?_
            exact hK _ _ _ _ _ _ _ (zCP_q ⟨zTn_rf, (zQi_u (zQi_u zQi_rf (by unfold zIr; omega)) (by unfold zIr; omega)), zQp_rf⟩ (zTm_rf _)) (by omega)
          ·
            refine z_iconst (pc2 := 13) rfl rfl ?_
            refine z_goto (pc2 := 17) rfl rfl ?_
            refine z_zret rfl rfl (by omega) ?_
            show zB _ _ _ _ _ _ [_] _ _
            refine z_if_eq (t := 101) (pc2 := 76) rfl rfl rfl (by omega) (fun c23 => by exfalso; omega) (fun c23 => ?_)
            refine z_aload (pc2 := 78) rfl rfl rfl ?_
            refine z_iload_n (pc2 := 79) rfl rfl rfl ?_
            refine z_callV (y2 := 37) (as := [_]) (rest := []) (pc2 := 82) rfl rfl rfl rfl tq8 rfl ?_
            refine z_inl ?_
            refine z_lv (lv2 := [(0, _), (1, _)]) ⟨rfl, rfl, trivial⟩ ?_
            refine z_iload_n (pc2 := 1) rfl rfl rfl ?_
            refine z_if_lt (t := 16) (pc2 := 4) rfl rfl rfl (by omega) (fun c24 => ?_) (fun c24 => ?_)
            ·
              refine z_iconst (pc2 := 17) rfl rfl ?_
              refine z_zret rfl rfl (by omega) ?_
              show zB _ _ _ _ _ _ [_] _ _
              refine z_if_eq (t := 101) (pc2 := 85) rfl rfl rfl (by omega) (fun c25 => ?_) (fun c25 => by exfalso; omega)
              refine z_aload_n (pc2 := 102) rfl rfl rfl ?_
              refine z_bipush (pc2 := 104) rfl rfl (by decide) ?_
              refine z_callV (y2 := 143) (as := [_]) (rest := []) (pc2 := 107) rfl rfl rfl rfl t1 rfl ?_
              refine z_inl ?_
              refine z_lv (lv2 := [(0, _), (1, _)]) ⟨rfl, rfl, trivial⟩ ?_
              refine z_aload_n (pc2 := 1) rfl rfl rfl ?_
              refine z_dup (pc2 := 2) rfl rfl rfl ?_
              refine z_getI (pc2 := 5) 0 rfl rfl rfl rfl rfl t1 ?_
              intro v26 e26 r26 k26
              clear k26
              clear e26
              refine z_iconst (pc2 := 6) rfl rfl ?_
              refine z_iadd (pc2 := 7) rfl rfl ?_
              refine z_putI_any (pc2 := 10) rfl rfl rfl rfl rfl rfl t1 (fun _ _ => True.intro) (fun u27 u27r => ?_)
              refine z_aload_n (pc2 := 11) rfl rfl rfl ?_
              refine z_iload_n (pc2 := 12) rfl rfl rfl ?_
              refine z_putI (pc2 := 15) rfl rfl rfl rfl rfl rfl t1 (by omega) True.intro ?_
              refine z_iload_n (pc2 := 16) rfl rfl rfl ?_
              refine z_iret rfl rfl ?_
              show zB _ _ _ _ _ _ [_] _ _
              refine z_iret rfl rfl ?_
              exact hK _ _ _ _ _ _ _ (zCP_q ⟨zTn_rf, (zQi_u (zQi_u zQi_rf (by unfold zIr; omega)) (by unfold zIr; omega)), zQp_rf⟩ (zTm_rf _)) (by omega)
            ·
              refine z_iload_n (pc2 := 5) rfl rfl rfl ?_
              refine z_aload_n (pc2 := 6) rfl rfl rfl ?_
              refine z_getI (pc2 := 9) 0 rfl rfl rfl rfl rfl tq8 ?_
              intro v28 e28 r28 k28
              replace k28 : n9 = v28 := Eq.symm k28
              subst k28
              refine z_icmp_ge (t := 16) (pc2 := 12) rfl rfl rfl (by omega) (by omega) (fun c29 => ?_) (fun c29 => ?_)
              ·
                refine z_iconst (pc2 := 17) rfl rfl ?_
                refine z_zret rfl rfl (by omega) ?_
                show zB _ _ _ _ _ _ [_] _ _
                refine z_if_eq (t := 101) (pc2 := 85) rfl rfl rfl (by omega) (fun c30 => ?_) (fun c30 => by exfalso; omega)
                refine z_aload_n (pc2 := 102) rfl rfl rfl ?_
                refine z_bipush (pc2 := 104) rfl rfl (by decide) ?_
                refine z_callV (y2 := 143) (as := [_]) (rest := []) (pc2 := 107) rfl rfl rfl rfl t1 rfl ?_
                refine z_inl ?_
                refine z_lv (lv2 := [(0, _), (1, _)]) ⟨rfl, rfl, trivial⟩ ?_
                refine z_aload_n (pc2 := 1) rfl rfl rfl ?_
                refine z_dup (pc2 := 2) rfl rfl rfl ?_
                refine z_getI (pc2 := 5) 0 rfl rfl rfl rfl rfl t1 ?_
                intro v31 e31 r31 k31
                clear k31
                clear e31
                refine z_iconst (pc2 := 6) rfl rfl ?_
                refine z_iadd (pc2 := 7) rfl rfl ?_
                refine z_putI_any (pc2 := 10) rfl rfl rfl rfl rfl rfl t1 (fun _ _ => True.intro) (fun u32 u32r => ?_)
                refine z_aload_n (pc2 := 11) rfl rfl rfl ?_
                refine z_iload_n (pc2 := 12) rfl rfl rfl ?_
                refine z_putI (pc2 := 15) rfl rfl rfl rfl rfl rfl t1 (by omega) True.intro ?_
                refine z_iload_n (pc2 := 16) rfl rfl rfl ?_
                refine z_iret rfl rfl ?_
                show zB _ _ _ _ _ _ [_] _ _
                refine z_iret rfl rfl ?_
                exact hK _ _ _ _ _ _ _ (zCP_q ⟨zTn_rf, (zQi_u (zQi_u zQi_rf (by unfold zIr; omega)) (by unfold zIr; omega)), zQp_rf⟩ (zTm_rf _)) (by omega)
              ·
                refine z_iconst (pc2 := 13) rfl rfl ?_
                refine z_goto (pc2 := 17) rfl rfl ?_
                refine z_zret rfl rfl (by omega) ?_
                show zB _ _ _ _ _ _ [_] _ _
                refine z_if_eq (t := 101) (pc2 := 85) rfl rfl rfl (by omega) (fun c33 => by exfalso; omega) (fun c33 => ?_)
                refine z_iload (pc2 := 87) rfl rfl rfl ?_
                refine z_iconst (pc2 := 88) rfl rfl ?_
                refine z_icmp_eq (t := 108) (pc2 := 91) rfl rfl rfl (by omega) (by omega) (fun c34 => ?_) (fun c34 => ?_)
                ·
                  refine z_aload_n (pc2 := 109) rfl rfl rfl ?_
                  refine z_aload (pc2 := 111) rfl rfl rfl ?_
                  refine z_iload_n (pc2 := 112) rfl rfl rfl ?_
                  refine z_iload_n (pc2 := 113) rfl rfl rfl ?_
                  refine z_iload (pc2 := 115) rfl rfl rfl ?_
                  refine z_iload (pc2 := 117) rfl rfl rfl ?_
                  refine z_callV (y2 := 38) (as := [_, _, _, _]) (rest := [_]) (pc2 := 120) rfl rfl rfl rfl tq8 rfl ?_
                  refine z_inl ?_
                  refine z_lv (lv2 := [(0, _), (1, _), (2, _), (3, _), (4, _)]) ⟨rfl, rfl, rfl, rfl, rfl, trivial⟩ ?_
                  refine z_aload_n (pc2 := 1) rfl rfl rfl ?_
                  refine z_getI (pc2 := 4) 0 rfl rfl rfl rfl rfl tq8 ?_
                  intro v35 e35 r35 k35
                  replace k35 : (0 ≤ v35 ∧ v35 ≤ 6) ∧ (n9 = 0 → v35 = 0) := k35
                  replace e35 : v12 = v35 := by rw [e35]; first | exact e12 | exact Eq.symm e12 | (simp [zU]; first | done | exact e12 | exact Eq.symm e12 | omega)
                  subst e35
                  refine z_iconst (pc2 := 5) rfl rfl ?_
                  refine z_imul (pc2 := 6) rfl rfl ?_
                  refine z_istore (lv2 := [(5, _), (0, _), (1, _), (2, _), (3, _), (4, _)]) (pc2 := 8) rfl rfl rfl rfl ?_
                  refine z_aload_n (pc2 := 9) rfl rfl rfl ?_
                  refine z_getP (pc2 := 12) rfl rfl rfl rfl tq8 ?_
                  intro p36 p36e p36k
                  obtain ⟨q37, rfl, q379, tq37, -⟩ := p36k
                  replace tq37 : _ = ((2, 0, [18, 26, n9]) : zT) := tq37
                  refine zB_le tq37 trivial (fun q37l => ?_)
                  refine z_iload (pc2 := 14) rfl rfl rfl ?_
                  refine z_iload_n (pc2 := 15) rfl rfl rfl ?_
                  refine z_iast (pc2 := 16) rfl rfl tq37 (by omega) (by omega) (by omega) (by omega) (st_26 (by omega) (by omega) (by omega)) ?_
                  refine z_aload_n (pc2 := 17) rfl rfl rfl ?_
                  refine z_getP (pc2 := 20) rfl rfl rfl rfl tq8 ?_
                  intro p38 p38e p38k
                  obtain ⟨q39, rfl, q399, tq39, -⟩ := p38k
                  replace tq39 : _ = ((2, 0, [18, 26, n9]) : zT) := tq39
                  refine zB_le tq39 trivial (fun q39l => ?_)
                  refine z_iload (pc2 := 22) rfl rfl rfl ?_
                  refine z_iconst (pc2 := 23) rfl rfl ?_
                  refine z_iadd (pc2 := 24) rfl rfl ?_
                  refine z_iload_n (pc2 := 25) rfl rfl rfl ?_
                  refine z_iast (pc2 := 26) rfl rfl tq39 (by omega) (by omega) (by omega) (by omega) (st_26 (by omega) (by omega) (by omega)) ?_
                  refine z_aload_n (pc2 := 27) rfl rfl rfl ?_
                  refine z_getP (pc2 := 30) rfl rfl rfl rfl tq8 ?_
                  intro p40 p40e p40k
                  obtain ⟨q41, rfl, q419, tq41, -⟩ := p40k
                  replace tq41 : _ = ((2, 0, [18, 26, n9]) : zT) := tq41
                  refine zB_le tq41 trivial (fun q41l => ?_)
                  refine z_iload (pc2 := 32) rfl rfl rfl ?_
                  refine z_iconst (pc2 := 33) rfl rfl ?_
                  refine z_iadd (pc2 := 34) rfl rfl ?_
                  refine z_iload_n (pc2 := 35) rfl rfl rfl ?_
                  refine z_iast (pc2 := 36) rfl rfl tq41 (by omega) (by omega) (by omega) (by omega) (st_26 (by omega) (by omega) (by omega)) ?_
                  refine z_aload_n (pc2 := 37) rfl rfl rfl ?_
                  refine z_getP (pc2 := 40) rfl rfl rfl rfl tq8 ?_
                  intro p42 p42e p42k
                  obtain ⟨q43, rfl, q439, tq43, -⟩ := p42k
                  replace tq43 : _ = ((2, 0, [6, 0]) : zT) := tq43
                  refine zB_le tq43 trivial (fun q43l => ?_)
                  refine z_aload_n (pc2 := 41) rfl rfl rfl ?_
                  refine z_getI (pc2 := 44) 0 rfl rfl rfl rfl rfl tq8 ?_
                  intro v44 e44 r44 k44
                  replace k44 : (0 ≤ v44 ∧ v44 ≤ 6) ∧ (n9 = 0 → v44 = 0) := k44
                  replace e44 : v12 = v44 := by rw [e44]; first | exact (Eq.trans (Eq.trans (Eq.trans e12 (congrFun (zU_row _ _ _ (zNeT tq8 tq37 (by simp))) _).symm) (congrFun (zU_row _ _ _ (zNeT tq8 tq39 (by simp))) _).symm) (congrFun (zU_row _ _ _ (zNeT tq8 tq41 (by simp))) _).symm) | exact Eq.symm (Eq.trans (Eq.trans (Eq.trans e12 (congrFun (zU_row _ _ _ (zNeT tq8 tq37 (by simp))) _).symm) (congrFun (zU_row _ _ _ (zNeT tq8 tq39 (by simp))) _).symm) (congrFun (zU_row _ _ _ (zNeT tq8 tq41 (by simp))) _).symm) | (simp [zU]; first | done | exact (Eq.trans (Eq.trans (Eq.trans e12 (congrFun (zU_row _ _ _ (zNeT tq8 tq37 (by simp))) _).symm) (congrFun (zU_row _ _ _ (zNeT tq8 tq39 (by simp))) _).symm) (congrFun (zU_row _ _ _ (zNeT tq8 tq41 (by simp))) _).symm) | exact Eq.symm (Eq.trans (Eq.trans (Eq.trans e12 (congrFun (zU_row _ _ _ (zNeT tq8 tq37 (by simp))) _).symm) (congrFun (zU_row _ _ _ (zNeT tq8 tq39 (by simp))) _).symm) (congrFun (zU_row _ _ _ (zNeT tq8 tq41 (by simp))) _).symm) | omega)
                  subst e44
                  refine z_iload (pc2 := 46) rfl rfl rfl ?_
                  refine z_iast (pc2 := 47) rfl rfl tq43 (by omega) (by omega) (by omega) (by omega) True.intro ?_
                  refine z_aload_n (pc2 := 48) rfl rfl rfl ?_
                  refine z_dup (pc2 := 49) rfl rfl rfl ?_
                  refine z_getI (pc2 := 52) 0 rfl rfl rfl rfl rfl tq8 ?_
                  intro v45 e45 r45 k45
                  replace k45 : (0 ≤ v45 ∧ v45 ≤ 6) ∧ (n9 = 0 → v45 = 0) := k45
                  replace e45 : v12 = v45 := by rw [e45]; first | exact (Eq.trans (Eq.trans (Eq.trans (Eq.trans e12 (congrFun (zU_row _ _ _ (zNeT tq8 tq37 (by simp))) _).symm) (congrFun (zU_row _ _ _ (zNeT tq8 tq39 (by simp))) _).symm) (congrFun (zU_row _ _ _ (zNeT tq8 tq41 (by simp))) _).symm) (congrFun (zU_row _ _ _ (zNeT tq8 tq43 (by simp))) _).symm) | exact Eq.symm (Eq.trans (Eq.trans (Eq.trans (Eq.trans e12 (congrFun (zU_row _ _ _ (zNeT tq8 tq37 (by simp))) _).symm) (congrFun (zU_row _ _ _ (zNeT tq8 tq39 (by simp))) _).symm) (congrFun (zU_row _ _ _ (zNeT tq8 tq41 (by simp))) _).symm) (congrFun (zU_row _ _ _ (zNeT tq8 tq43 (by simp))) _).symm) | (simp [zU]; first | done | exact (Eq.trans (Eq.trans (Eq.trans (Eq.trans e12 (congrFun (zU_row _ _ _ (zNeT tq8 tq37 (by simp))) _).symm) (congrFun (zU_row _ _ _ (zNeT tq8 tq39 (by simp))) _).symm) (congrFun (zU_row _ _ _ (zNeT tq8 tq41 (by simp))) _).symm) (congrFun (zU_row _ _ _ (zNeT tq8 tq43 (by simp))) _).symm) | exact Eq.symm (Eq.trans (Eq.trans (Eq.trans (Eq.trans e12 (congrFun (zU_row _ _ _ (zNeT tq8 tq37 (by simp))) _).symm) (congrFun (zU_row _ _ _ (zNeT tq8 tq39 (by simp))) _).symm) (congrFun (zU_row _ _ _ (zNeT tq8 tq41 (by simp))) _).symm) (congrFun (zU_row _ _ _ (zNeT tq8 tq43 (by simp))) _).symm) | omega)
                  subst e45
                  refine z_iconst (pc2 := 53) rfl rfl ?_
                  refine z_iadd (pc2 := 54) rfl rfl ?_
                  refine z_putI (pc2 := 57) rfl rfl rfl rfl rfl rfl tq8 (by omega) (st_joins (by omega) (by omega)) ?_
                  refine z_aload_n (pc2 := 58) rfl rfl rfl ?_
                  refine z_getI (pc2 := 61) 0 rfl rfl rfl rfl rfl tq8 ?_
                  intro v46 e46 r46 k46
                  replace k46 : (0 ≤ v46 ∧ v46 ≤ 6) ∧ (n9 = 0 → v46 = 0) := k46
                  replace e46 : (v12 + 1) = v46 := by rw [e46]; simp [zU]
                  subst e46
                  refine z_iconst (pc2 := 62) rfl rfl ?_
                  refine z_isub (pc2 := 63) rfl rfl ?_
                  refine z_iret rfl rfl ?_
                  show zB _ _ _ _ _ _ [_, _] _ _
                  refine z_callV (y2 := 145) (as := [_]) (rest := []) (pc2 := 123) rfl rfl rfl rfl t1 rfl ?_
                  refine z_inl ?_
                  refine z_lv (lv2 := [(0, _), (1, _)]) ⟨rfl, rfl, trivial⟩ ?_
                  refine z_aload_n (pc2 := 1) rfl rfl rfl ?_
                  refine z_getP (pc2 := 4) rfl rfl rfl rfl t1 ?_
                  intro p47 p47e p47k
                  clear p47k; replace p47e : p47 = some b5 := by rw [p47e]; first | exact p4e | exact Eq.symm p4e | (simp [zU]; first | done | exact p4e | exact Eq.symm p4e | omega)
                  subst p47e
                  refine z_iconst (pc2 := 5) rfl rfl ?_
                  refine z_putZ (pc2 := 8) rfl rfl rfl rfl rfl rfl tb5.1 (by omega) True.intro ?_
                  refine z_aload_n (pc2 := 9) rfl rfl rfl ?_
                  refine z_iload_n (pc2 := 10) rfl rfl rfl ?_
                  refine z_callV (y2 := 144) (as := [_]) (rest := []) (pc2 := 13) rfl rfl rfl rfl t1 rfl ?_
                  refine z_inl ?_
                  refine z_lv (lv2 := [(0, _), (1, _)]) ⟨rfl, rfl, trivial⟩ ?_
                  refine z_aload_n (pc2 := 1) rfl rfl rfl ?_
                  refine z_iconst (pc2 := 2) rfl rfl ?_
                  refine z_putI (pc2 := 5) rfl rfl rfl rfl rfl rfl t1 (by omega) True.intro ?_
                  refine z_iload_n (pc2 := 6) rfl rfl rfl ?_
                  refine z_iret rfl rfl ?_
                  show zB _ _ _ _ _ _ [_] _ _
                  refine z_iret rfl rfl ?_
                  show zB _ _ _ _ _ _ [_] _ _
                  refine z_iret rfl rfl ?_
                  exact hK _ _ _ _ _ _ _ (zCP_q ⟨zTn_rf, (zQi_u (zQi_u (zQi_u (zQi_u (zQi_u (zQi_u (zQi_u zQi_rf (by unfold zIr; omega)) (by unfold zIr; omega)) (by unfold zIr; omega)) (by unfold zIr; omega)) (by unfold zIr; omega)) (by unfold zIr; omega)) (by unfold zIr; omega)), zQp_rf⟩ (zTm_rf _)) (by omega)
                ·
                  refine z_aload (pc2 := 93) rfl rfl rfl ?_
                  refine z_iload (pc2 := 95) rfl rfl rfl ?_
                  refine z_callV (y2 := 37) (as := [_]) (rest := []) (pc2 := 98) rfl rfl rfl rfl tq8 rfl ?_
                  refine z_inl ?_
                  refine z_lv (lv2 := [(0, _), (1, _)]) ⟨rfl, rfl, trivial⟩ ?_
                  refine z_iload_n (pc2 := 1) rfl rfl rfl ?_
                  refine z_if_lt (t := 16) (pc2 := 4) rfl rfl rfl (by omega) (fun c48 => ?_) (fun c48 => ?_)
                  ·
                    refine z_iconst (pc2 := 17) rfl rfl ?_
                    refine z_zret rfl rfl (by omega) ?_
                    show zB _ _ _ _ _ _ [_] _ _
                    refine z_if_ne (t := 108) (pc2 := 101) rfl rfl rfl (by omega) (fun c49 => by exfalso; omega) (fun c49 => ?_)
                    refine z_aload_n (pc2 := 102) rfl rfl rfl ?_
                    refine z_bipush (pc2 := 104) rfl rfl (by decide) ?_
                    refine z_callV (y2 := 143) (as := [_]) (rest := []) (pc2 := 107) rfl rfl rfl rfl t1 rfl ?_
                    refine z_inl ?_
                    refine z_lv (lv2 := [(0, _), (1, _)]) ⟨rfl, rfl, trivial⟩ ?_
                    refine z_aload_n (pc2 := 1) rfl rfl rfl ?_
                    refine z_dup (pc2 := 2) rfl rfl rfl ?_
                    refine z_getI (pc2 := 5) 0 rfl rfl rfl rfl rfl t1 ?_
                    intro v50 e50 r50 k50
                    clear k50
                    clear e50
                    refine z_iconst (pc2 := 6) rfl rfl ?_
                    refine z_iadd (pc2 := 7) rfl rfl ?_
                    refine z_putI_any (pc2 := 10) rfl rfl rfl rfl rfl rfl t1 (fun _ _ => True.intro) (fun u51 u51r => ?_)
                    refine z_aload_n (pc2 := 11) rfl rfl rfl ?_
                    refine z_iload_n (pc2 := 12) rfl rfl rfl ?_
                    refine z_putI (pc2 := 15) rfl rfl rfl rfl rfl rfl t1 (by omega) True.intro ?_
                    refine z_iload_n (pc2 := 16) rfl rfl rfl ?_
                    refine z_iret rfl rfl ?_
                    show zB _ _ _ _ _ _ [_] _ _
                    refine z_iret rfl rfl ?_
                    exact hK _ _ _ _ _ _ _ (zCP_q ⟨zTn_rf, (zQi_u (zQi_u zQi_rf (by unfold zIr; omega)) (by unfold zIr; omega)), zQp_rf⟩ (zTm_rf _)) (by omega)
                  ·
                    refine z_iload_n (pc2 := 5) rfl rfl rfl ?_
                    refine z_aload_n (pc2 := 6) rfl rfl rfl ?_
                    refine z_getI (pc2 := 9) 0 rfl rfl rfl rfl rfl tq8 ?_
                    intro v52 e52 r52 k52
                    replace k52 : n9 = v52 := Eq.symm k52
                    subst k52
                    refine z_icmp_ge (t := 16) (pc2 := 12) rfl rfl rfl (by omega) (by omega) (fun c53 => ?_) (fun c53 => ?_)
                    ·
                      refine z_iconst (pc2 := 17) rfl rfl ?_
                      refine z_zret rfl rfl (by omega) ?_
                      show zB _ _ _ _ _ _ [_] _ _
                      refine z_if_ne (t := 108) (pc2 := 101) rfl rfl rfl (by omega) (fun c54 => by exfalso; omega) (fun c54 => ?_)
                      refine z_aload_n (pc2 := 102) rfl rfl rfl ?_
                      refine z_bipush (pc2 := 104) rfl rfl (by decide) ?_
                      refine z_callV (y2 := 143) (as := [_]) (rest := []) (pc2 := 107) rfl rfl rfl rfl t1 rfl ?_
                      refine z_inl ?_
                      refine z_lv (lv2 := [(0, _), (1, _)]) ⟨rfl, rfl, trivial⟩ ?_
                      refine z_aload_n (pc2 := 1) rfl rfl rfl ?_
                      refine z_dup (pc2 := 2) rfl rfl rfl ?_
                      refine z_getI (pc2 := 5) 0 rfl rfl rfl rfl rfl t1 ?_
                      intro v55 e55 r55 k55
                      clear k55
                      clear e55
                      refine z_iconst (pc2 := 6) rfl rfl ?_
                      refine z_iadd (pc2 := 7) rfl rfl ?_
                      refine z_putI_any (pc2 := 10) rfl rfl rfl rfl rfl rfl t1 (fun _ _ => True.intro) (fun u56 u56r => ?_)
                      refine z_aload_n (pc2 := 11) rfl rfl rfl ?_
                      refine z_iload_n (pc2 := 12) rfl rfl rfl ?_
                      refine z_putI (pc2 := 15) rfl rfl rfl rfl rfl rfl t1 (by omega) True.intro ?_
                      refine z_iload_n (pc2 := 16) rfl rfl rfl ?_
                      refine z_iret rfl rfl ?_
                      show zB _ _ _ _ _ _ [_] _ _
                      refine z_iret rfl rfl ?_
                      exact hK _ _ _ _ _ _ _ (zCP_q ⟨zTn_rf, (zQi_u (zQi_u zQi_rf (by unfold zIr; omega)) (by unfold zIr; omega)), zQp_rf⟩ (zTm_rf _)) (by omega)
                    ·
                      refine z_iconst (pc2 := 13) rfl rfl ?_
                      refine z_goto (pc2 := 17) rfl rfl ?_
                      refine z_zret rfl rfl (by omega) ?_
                      show zB _ _ _ _ _ _ [_] _ _
                      refine z_if_ne (t := 108) (pc2 := 101) rfl rfl rfl (by omega) (fun c57 => ?_) (fun c57 => by exfalso; omega)
                      refine z_aload_n (pc2 := 109) rfl rfl rfl ?_
                      refine z_aload (pc2 := 111) rfl rfl rfl ?_
                      refine z_iload_n (pc2 := 112) rfl rfl rfl ?_
                      refine z_iload_n (pc2 := 113) rfl rfl rfl ?_
                      refine z_iload (pc2 := 115) rfl rfl rfl ?_
                      refine z_iload (pc2 := 117) rfl rfl rfl ?_
                      refine z_callV (y2 := 38) (as := [_, _, _, _]) (rest := [_]) (pc2 := 120) rfl rfl rfl rfl tq8 rfl ?_
                      refine z_inl ?_
                      refine z_lv (lv2 := [(0, _), (1, _), (2, _), (3, _), (4, _)]) ⟨rfl, rfl, rfl, rfl, rfl, trivial⟩ ?_
                      refine z_aload_n (pc2 := 1) rfl rfl rfl ?_
                      refine z_getI (pc2 := 4) 0 rfl rfl rfl rfl rfl tq8 ?_
                      intro v58 e58 r58 k58
                      replace k58 : (0 ≤ v58 ∧ v58 ≤ 6) ∧ (n9 = 0 → v58 = 0) := k58
                      replace e58 : v12 = v58 := by rw [e58]; first | exact e12 | exact Eq.symm e12 | (simp [zU]; first | done | exact e12 | exact Eq.symm e12 | omega)
                      subst e58
                      refine z_iconst (pc2 := 5) rfl rfl ?_
                      refine z_imul (pc2 := 6) rfl rfl ?_
                      refine z_istore (lv2 := [(5, _), (0, _), (1, _), (2, _), (3, _), (4, _)]) (pc2 := 8) rfl rfl rfl rfl ?_
                      refine z_aload_n (pc2 := 9) rfl rfl rfl ?_
                      refine z_getP (pc2 := 12) rfl rfl rfl rfl tq8 ?_
                      intro p59 p59e p59k
                      obtain ⟨q60, rfl, q609, tq60, -⟩ := p59k
                      replace tq60 : _ = ((2, 0, [18, 26, n9]) : zT) := tq60
                      refine zB_le tq60 trivial (fun q60l => ?_)
                      refine z_iload (pc2 := 14) rfl rfl rfl ?_
                      refine z_iload_n (pc2 := 15) rfl rfl rfl ?_
                      refine z_iast (pc2 := 16) rfl rfl tq60 (by omega) (by omega) (by omega) (by omega) (st_26 (by omega) (by omega) (by omega)) ?_
                      refine z_aload_n (pc2 := 17) rfl rfl rfl ?_
                      refine z_getP (pc2 := 20) rfl rfl rfl rfl tq8 ?_
                      intro p61 p61e p61k
                      obtain ⟨q62, rfl, q629, tq62, -⟩ := p61k
                      replace tq62 : _ = ((2, 0, [18, 26, n9]) : zT) := tq62
                      refine zB_le tq62 trivial (fun q62l => ?_)
                      refine z_iload (pc2 := 22) rfl rfl rfl ?_
                      refine z_iconst (pc2 := 23) rfl rfl ?_
                      refine z_iadd (pc2 := 24) rfl rfl ?_
                      refine z_iload_n (pc2 := 25) rfl rfl rfl ?_
                      refine z_iast (pc2 := 26) rfl rfl tq62 (by omega) (by omega) (by omega) (by omega) (st_26 (by omega) (by omega) (by omega)) ?_
                      refine z_aload_n (pc2 := 27) rfl rfl rfl ?_
                      refine z_getP (pc2 := 30) rfl rfl rfl rfl tq8 ?_
                      intro p63 p63e p63k
                      obtain ⟨q64, rfl, q649, tq64, -⟩ := p63k
                      replace tq64 : _ = ((2, 0, [18, 26, n9]) : zT) := tq64
                      refine zB_le tq64 trivial (fun q64l => ?_)
                      refine z_iload (pc2 := 32) rfl rfl rfl ?_
                      refine z_iconst (pc2 := 33) rfl rfl ?_
                      refine z_iadd (pc2 := 34) rfl rfl ?_
                      refine z_iload_n (pc2 := 35) rfl rfl rfl ?_
                      refine z_iast (pc2 := 36) rfl rfl tq64 (by omega) (by omega) (by omega) (by omega) (st_26 (by omega) (by omega) (by omega)) ?_
                      refine z_aload_n (pc2 := 37) rfl rfl rfl ?_
                      refine z_getP (pc2 := 40) rfl rfl rfl rfl tq8 ?_
                      intro p65 p65e p65k
                      obtain ⟨q66, rfl, q669, tq66, -⟩ := p65k
                      replace tq66 : _ = ((2, 0, [6, 0]) : zT) := tq66
                      refine zB_le tq66 trivial (fun q66l => ?_)
                      refine z_aload_n (pc2 := 41) rfl rfl rfl ?_
                      refine z_getI (pc2 := 44) 0 rfl rfl rfl rfl rfl tq8 ?_
                      intro v67 e67 r67 k67
                      replace k67 : (0 ≤ v67 ∧ v67 ≤ 6) ∧ (n9 = 0 → v67 = 0) := k67
                      replace e67 : v12 = v67 := by rw [e67]; first | exact (Eq.trans (Eq.trans (Eq.trans e12 (congrFun (zU_row _ _ _ (zNeT tq8 tq60 (by simp))) _).symm) (congrFun (zU_row _ _ _ (zNeT tq8 tq62 (by simp))) _).symm) (congrFun (zU_row _ _ _ (zNeT tq8 tq64 (by simp))) _).symm) | exact Eq.symm (Eq.trans (Eq.trans (Eq.trans e12 (congrFun (zU_row _ _ _ (zNeT tq8 tq60 (by simp))) _).symm) (congrFun (zU_row _ _ _ (zNeT tq8 tq62 (by simp))) _).symm) (congrFun (zU_row _ _ _ (zNeT tq8 tq64 (by simp))) _).symm) | (simp [zU]; first | done | exact (Eq.trans (Eq.trans (Eq.trans e12 (congrFun (zU_row _ _ _ (zNeT tq8 tq60 (by simp))) _).symm) (congrFun (zU_row _ _ _ (zNeT tq8 tq62 (by simp))) _).symm) (congrFun (zU_row _ _ _ (zNeT tq8 tq64 (by simp))) _).symm) | exact Eq.symm (Eq.trans (Eq.trans (Eq.trans e12 (congrFun (zU_row _ _ _ (zNeT tq8 tq60 (by simp))) _).symm) (congrFun (zU_row _ _ _ (zNeT tq8 tq62 (by simp))) _).symm) (congrFun (zU_row _ _ _ (zNeT tq8 tq64 (by simp))) _).symm) | omega)
                      subst e67
                      refine z_iload (pc2 := 46) rfl rfl rfl ?_
                      refine z_iast (pc2 := 47) rfl rfl tq66 (by omega) (by omega) (by omega) (by omega) True.intro ?_
                      refine z_aload_n (pc2 := 48) rfl rfl rfl ?_
                      refine z_dup (pc2 := 49) rfl rfl rfl ?_
                      refine z_getI (pc2 := 52) 0 rfl rfl rfl rfl rfl tq8 ?_
                      intro v68 e68 r68 k68
                      replace k68 : (0 ≤ v68 ∧ v68 ≤ 6) ∧ (n9 = 0 → v68 = 0) := k68
                      replace e68 : v12 = v68 := by rw [e68]; first | exact (Eq.trans (Eq.trans (Eq.trans (Eq.trans e12 (congrFun (zU_row _ _ _ (zNeT tq8 tq60 (by simp))) _).symm) (congrFun (zU_row _ _ _ (zNeT tq8 tq62 (by simp))) _).symm) (congrFun (zU_row _ _ _ (zNeT tq8 tq64 (by simp))) _).symm) (congrFun (zU_row _ _ _ (zNeT tq8 tq66 (by simp))) _).symm) | exact Eq.symm (Eq.trans (Eq.trans (Eq.trans (Eq.trans e12 (congrFun (zU_row _ _ _ (zNeT tq8 tq60 (by simp))) _).symm) (congrFun (zU_row _ _ _ (zNeT tq8 tq62 (by simp))) _).symm) (congrFun (zU_row _ _ _ (zNeT tq8 tq64 (by simp))) _).symm) (congrFun (zU_row _ _ _ (zNeT tq8 tq66 (by simp))) _).symm) | (simp [zU]; first | done | exact (Eq.trans (Eq.trans (Eq.trans (Eq.trans e12 (congrFun (zU_row _ _ _ (zNeT tq8 tq60 (by simp))) _).symm) (congrFun (zU_row _ _ _ (zNeT tq8 tq62 (by simp))) _).symm) (congrFun (zU_row _ _ _ (zNeT tq8 tq64 (by simp))) _).symm) (congrFun (zU_row _ _ _ (zNeT tq8 tq66 (by simp))) _).symm) | exact Eq.symm (Eq.trans (Eq.trans (Eq.trans (Eq.trans e12 (congrFun (zU_row _ _ _ (zNeT tq8 tq60 (by simp))) _).symm) (congrFun (zU_row _ _ _ (zNeT tq8 tq62 (by simp))) _).symm) (congrFun (zU_row _ _ _ (zNeT tq8 tq64 (by simp))) _).symm) (congrFun (zU_row _ _ _ (zNeT tq8 tq66 (by simp))) _).symm) | omega)
                      subst e68
                      refine z_iconst (pc2 := 53) rfl rfl ?_
                      refine z_iadd (pc2 := 54) rfl rfl ?_
                      refine z_putI (pc2 := 57) rfl rfl rfl rfl rfl rfl tq8 (by omega) (st_joins (by omega) (by omega)) ?_
                      refine z_aload_n (pc2 := 58) rfl rfl rfl ?_
                      refine z_getI (pc2 := 61) 0 rfl rfl rfl rfl rfl tq8 ?_
                      intro v69 e69 r69 k69
                      replace k69 : (0 ≤ v69 ∧ v69 ≤ 6) ∧ (n9 = 0 → v69 = 0) := k69
                      replace e69 : (v12 + 1) = v69 := by rw [e69]; simp [zU]
                      subst e69
                      refine z_iconst (pc2 := 62) rfl rfl ?_
                      refine z_isub (pc2 := 63) rfl rfl ?_
                      refine z_iret rfl rfl ?_
                      show zB _ _ _ _ _ _ [_, _] _ _
                      refine z_callV (y2 := 145) (as := [_]) (rest := []) (pc2 := 123) rfl rfl rfl rfl t1 rfl ?_
                      refine z_inl ?_
                      refine z_lv (lv2 := [(0, _), (1, _)]) ⟨rfl, rfl, trivial⟩ ?_
                      refine z_aload_n (pc2 := 1) rfl rfl rfl ?_
                      refine z_getP (pc2 := 4) rfl rfl rfl rfl t1 ?_
                      intro p70 p70e p70k
                      clear p70k; replace p70e : p70 = some b5 := by rw [p70e]; first | exact p4e | exact Eq.symm p4e | (simp [zU]; first | done | exact p4e | exact Eq.symm p4e | omega)
                      subst p70e
                      refine z_iconst (pc2 := 5) rfl rfl ?_
                      refine z_putZ (pc2 := 8) rfl rfl rfl rfl rfl rfl tb5.1 (by omega) True.intro ?_
                      refine z_aload_n (pc2 := 9) rfl rfl rfl ?_
                      refine z_iload_n (pc2 := 10) rfl rfl rfl ?_
                      refine z_callV (y2 := 144) (as := [_]) (rest := []) (pc2 := 13) rfl rfl rfl rfl t1 rfl ?_
                      refine z_inl ?_
                      refine z_lv (lv2 := [(0, _), (1, _)]) ⟨rfl, rfl, trivial⟩ ?_
                      refine z_aload_n (pc2 := 1) rfl rfl rfl ?_
                      refine z_iconst (pc2 := 2) rfl rfl ?_
                      refine z_putI (pc2 := 5) rfl rfl rfl rfl rfl rfl t1 (by omega) True.intro ?_
                      refine z_iload_n (pc2 := 6) rfl rfl rfl ?_
                      refine z_iret rfl rfl ?_
                      show zB _ _ _ _ _ _ [_] _ _
                      refine z_iret rfl rfl ?_
                      show zB _ _ _ _ _ _ [_] _ _
                      refine z_iret rfl rfl ?_
                      exact hK _ _ _ _ _ _ _ (zCP_q ⟨zTn_rf, (zQi_u (zQi_u (zQi_u (zQi_u (zQi_u (zQi_u (zQi_u zQi_rf (by unfold zIr; omega)) (by unfold zIr; omega)) (by unfold zIr; omega)) (by unfold zIr; omega)) (by unfold zIr; omega)) (by unfold zIr; omega)) (by unfold zIr; omega)), zQp_rf⟩ (zTm_rf _)) (by omega)
      ·
        refine z_aload_n (pc2 := 61) rfl rfl rfl ?_
        refine z_bipush (pc2 := 63) rfl rfl (by decide) ?_
        refine z_callV (y2 := 142) (as := [_]) (rest := []) (pc2 := 66) rfl rfl rfl rfl t1 rfl ?_
        refine z_inl ?_
        refine z_lv (lv2 := [(0, _), (1, _)]) ⟨rfl, rfl, trivial⟩ ?_
        refine z_aload_n (pc2 := 1) rfl rfl rfl ?_
        refine z_iload_n (pc2 := 2) rfl rfl rfl ?_
        refine z_putI (pc2 := 5) rfl rfl rfl rfl rfl rfl t1 (by omega) True.intro ?_
        refine z_iload_n (pc2 := 6) rfl rfl rfl ?_
        refine z_iret rfl rfl ?_
        show zB _ _ _ _ _ _ [_] _ _
        refine z_iret rfl rfl ?_
        exact hK _ _ _ _ _ _ _ (zCP_q ⟨zTn_rf, (zQi_u zQi_rf (by unfold zIr; omega)), zQp_rf⟩ (zTm_rf _)) (by omega)
  ·
    refine z_aload_n (pc2 := 21) rfl rfl rfl ?_
    refine z_iload (pc2 := 23) rfl rfl rfl ?_
    refine z_callV (y2 := 142) (as := [_]) (rest := []) (pc2 := 26) rfl rfl rfl rfl t1 rfl ?_
    refine z_inl ?_
    refine z_lv (lv2 := [(0, _), (1, _)]) ⟨rfl, rfl, trivial⟩ ?_
    refine z_aload_n (pc2 := 1) rfl rfl rfl ?_
    refine z_iload_n (pc2 := 2) rfl rfl rfl ?_
    refine z_putI (pc2 := 5) rfl rfl rfl rfl rfl rfl t1 (by omega) True.intro ?_
    refine z_iload_n (pc2 := 6) rfl rfl rfl ?_
    refine z_iret rfl rfl ?_
    show zB _ _ _ _ _ _ [_] _ _
    refine z_iret rfl rfl ?_
    exact hK _ _ _ _ _ _ _ (zCP_q ⟨zTn_rf, (zQi_u zQi_rf (by unfold zIr; omega)), zQp_rf⟩ (zTm_rf _)) (by omega)
set_option maxHeartbeats 8000000 in
theorem c_TypeRoom_ornament {L : Nat} {xs : Nat → Int32} {n sl : Nat} {T : Nat → zT} {I : Nat → Nat → Int} {P : Nat → Nat → Option Nat} {G : Nat → Nat → Int} {K : List zV → zH → Prop} {a c d : Int} (hn : 90 ≤ n) (hC : ∀ a, 1 ≤ a → a ≤ 55 → T a = zFixC a) (ha : zR a) (hc : zR c) (hd : zR d) (hK : ∀ e n2 sl2 T2 I2 P2 G2, zCP n T T2 I I2 P P2 → (n ≤ n2 ∧ n2 ≤ n + 0 ∧ sl2 ≤ sl + 0) → K [.inl e] (n2, sl2, T2, I2, P2, G2)) : zX zMd L xs 112 [.inr (.inl (some 1)), .inl a, .inl c, .inl d] (n, sl, T, I, P, G) K := by
  have t1 : T 1 = (1, 11, [1]) := hC 1 (by decide) (by decide)
  refine z_inl ?_
  refine z_lv (lv2 := [(0, _), (1, _), (2, _), (3, _)]) ⟨rfl, rfl, rfl, rfl, trivial⟩ ?_
  refine z_aload_n (pc2 := 1) rfl rfl rfl ?_
  refine z_iload_n (pc2 := 2) rfl rfl rfl ?_
  refine z_iload_n (pc2 := 3) rfl rfl rfl ?_
  refine z_iconst (pc2 := 4) rfl rfl ?_
  refine z_bipush (pc2 := 6) rfl rfl (by decide) ?_
  refine z_callS (y2 := 155) (as := [_, _, _]) (rest := [_, _]) (pc2 := 9) rfl rfl rfl rfl ?_
  refine c_TypeRoom_isOutside (by omega) (by omega) (by omega) (fun e1 e1a e1b e1c => ?_)
  show zB _ _ _ _ _ _ [_, _, _] _ _
  refine z_callV (y2 := 146) (as := [_, _]) (rest := []) (pc2 := 12) rfl rfl rfl rfl t1 rfl ?_
  refine c_TypeRoom_whyNotChange hn hC (by omega) (by omega) (fun w2 w2r w2z => ?_)
  show zB _ _ _ _ _ _ [_] _ _
  refine z_istore (lv2 := [(4, _), (0, _), (1, _), (2, _), (3, _)]) (pc2 := 14) rfl rfl rfl rfl ?_
  refine z_iload (pc2 := 16) rfl rfl rfl ?_
  refine z_if_eq (t := 26) (pc2 := 19) rfl rfl rfl (by omega) (fun c3 => ?_) (fun c3 => ?_)
  ·
    refine z_aload_n (pc2 := 27) rfl rfl rfl ?_
    refine z_getP (pc2 := 30) rfl rfl rfl rfl t1 ?_
    intro p4 p4e p4k
    obtain ⟨b5, rfl, hb5⟩ := zHere p4k
    have tb5 := zRm_t hC hb5
    refine z_getP (pc2 := 33) rfl rfl rfl rfl tb5.1 ?_
    intro p6 p6e p6k
    replace p6k : p6 = some (b5 + 1) := p6k; clear p6e; subst p6k
    refine z_iload_n (pc2 := 34) rfl rfl rfl ?_
    refine z_aald (pc2 := 35) rfl rfl tb5.2.1 rfl (by omega) (by omega) (by omega) ?_
    intro p7 p7e p7k
    rcases p7k with rfl | ⟨q8, rfl, q89, n9, tq8, q8b⟩
    ·
      refine z_astore (lv2 := [(5, _), (4, _), (0, _), (1, _), (2, _), (3, _)]) (pc2 := 37) rfl rfl rfl rfl ?_
      refine z_aload (pc2 := 39) rfl rfl rfl ?_
      refine z_ifnonnull (t := 49) (pc2 := 42) rfl rfl rfl (fun a h => by cases h) (fun _ => ?_)
      refine z_aload_n (pc2 := 43) rfl rfl rfl ?_
      refine z_bipush (pc2 := 45) rfl rfl (by decide) ?_
      refine z_callV (y2 := 143) (as := [_]) (rest := []) (pc2 := 48) rfl rfl rfl rfl t1 rfl ?_
      refine z_inl ?_
      refine z_lv (lv2 := [(0, _), (1, _)]) ⟨rfl, rfl, trivial⟩ ?_
      refine z_aload_n (pc2 := 1) rfl rfl rfl ?_
      refine z_dup (pc2 := 2) rfl rfl rfl ?_
      refine z_getI (pc2 := 5) 0 rfl rfl rfl rfl rfl t1 ?_
      intro v10 e10 r10 k10
      clear k10
      clear e10
      refine z_iconst (pc2 := 6) rfl rfl ?_
      refine z_iadd (pc2 := 7) rfl rfl ?_
      refine z_putI_any (pc2 := 10) rfl rfl rfl rfl rfl rfl t1 (fun _ _ => True.intro) (fun u11 u11r => ?_)
      refine z_aload_n (pc2 := 11) rfl rfl rfl ?_
      refine z_iload_n (pc2 := 12) rfl rfl rfl ?_
      refine z_putI (pc2 := 15) rfl rfl rfl rfl rfl rfl t1 (by omega) True.intro ?_
      refine z_iload_n (pc2 := 16) rfl rfl rfl ?_
      refine z_iret rfl rfl ?_
      show zB _ _ _ _ _ _ [_] _ _
      refine z_iret rfl rfl ?_
      exact hK _ _ _ _ _ _ _ (zCP_q ⟨zTn_rf, (zQi_u (zQi_u zQi_rf (by unfold zIr; omega)) (by unfold zIr; omega)), zQp_rf⟩ (zTm_rf _)) (by omega)
    ·
      replace tq8 : _ = ((1, 3, [n9]) : zT) := tq8
      refine zB_le tq8 trivial (fun q8l => ?_)
      refine z_astore (lv2 := [(5, _), (4, _), (0, _), (1, _), (2, _), (3, _)]) (pc2 := 37) rfl rfl rfl rfl ?_
      refine z_aload (pc2 := 39) rfl rfl rfl ?_
      refine z_ifnonnull (t := 49) (pc2 := 42) rfl rfl rfl (fun _ _ => ?_) (fun h => by cases h)
      refine z_iload_n (pc2 := 50) rfl rfl rfl ?_
      refine z_iconst (pc2 := 51) rfl rfl ?_
      refine z_iconst (pc2 := 52) rfl rfl ?_
      refine z_callS (y2 := 155) (as := [_, _, _]) (rest := []) (pc2 := 55) rfl rfl rfl rfl ?_
      refine c_TypeRoom_isOutside (by omega) (by omega) (by omega) (fun e12 e12a e12b e12c => ?_)
      show zB _ _ _ _ _ _ [_] _ _
      refine z_if_eq (t := 65) (pc2 := 58) rfl rfl rfl (by omega) (fun c13 => ?_) (fun c13 => ?_)
      ·
        refine z_aload (pc2 := 67) rfl rfl rfl ?_
        refine z_getP (pc2 := 70) rfl rfl rfl rfl tq8 ?_
        intro p14 p14e p14k
        obtain ⟨q15, rfl, q159, tq15, -⟩ := p14k
        replace tq15 : _ = ((2, 0, [4, 0]) : zT) := tq15
        refine zB_le tq15 trivial (fun q15l => ?_)
        refine z_iload_n (pc2 := 71) rfl rfl rfl ?_
        refine z_iald (pc2 := 72) rfl rfl tq15 (by omega) (by omega) (by omega) ?_
        intro v16 e16 r16 k16
        clear k16
        clear e16
        refine z_istore (lv2 := [(6, _), (5, _), (4, _), (0, _), (1, _), (2, _), (3, _)]) (pc2 := 74) rfl rfl rfl rfl ?_
        refine z_aload (pc2 := 76) rfl rfl rfl ?_
        refine z_getP (pc2 := 79) rfl rfl rfl rfl tq8 ?_
        intro p17 p17e p17k
        obtain ⟨q18, rfl, q189, tq18, -⟩ := p17k
        replace tq18 : _ = ((2, 0, [4, 0]) : zT) := tq18
        refine zB_le tq18 trivial (fun q18l => ?_)
        refine z_iload_n (pc2 := 80) rfl rfl rfl ?_
        refine z_iload_n (pc2 := 81) rfl rfl rfl ?_
        refine z_iast (pc2 := 82) rfl rfl tq18 (by omega) (by omega) (by omega) (by omega) True.intro ?_
        refine z_aload_n (pc2 := 83) rfl rfl rfl ?_
        refine z_iload (pc2 := 85) rfl rfl rfl ?_
        refine z_callV (y2 := 145) (as := [_]) (rest := []) (pc2 := 88) rfl rfl rfl rfl t1 rfl ?_
        refine z_inl ?_
        refine z_lv (lv2 := [(0, _), (1, _)]) ⟨rfl, rfl, trivial⟩ ?_
        refine z_aload_n (pc2 := 1) rfl rfl rfl ?_
        refine z_getP (pc2 := 4) rfl rfl rfl rfl t1 ?_
        intro p19 p19e p19k
        clear p19k; replace p19e : p19 = some b5 := by rw [p19e]; first | exact p4e | exact Eq.symm p4e | (simp [zU]; first | done | exact p4e | exact Eq.symm p4e | omega)
        subst p19e
        refine z_iconst (pc2 := 5) rfl rfl ?_
        refine z_putZ (pc2 := 8) rfl rfl rfl rfl rfl rfl tb5.1 (by omega) True.intro ?_
        refine z_aload_n (pc2 := 9) rfl rfl rfl ?_
        refine z_iload_n (pc2 := 10) rfl rfl rfl ?_
        refine z_callV (y2 := 144) (as := [_]) (rest := []) (pc2 := 13) rfl rfl rfl rfl t1 rfl ?_
        refine z_inl ?_
        refine z_lv (lv2 := [(0, _), (1, _)]) ⟨rfl, rfl, trivial⟩ ?_
        refine z_aload_n (pc2 := 1) rfl rfl rfl ?_
        refine z_iconst (pc2 := 2) rfl rfl ?_
        refine z_putI (pc2 := 5) rfl rfl rfl rfl rfl rfl t1 (by omega) True.intro ?_
        refine z_iload_n (pc2 := 6) rfl rfl rfl ?_
        refine z_iret rfl rfl ?_
        show zB _ _ _ _ _ _ [_] _ _
        refine z_iret rfl rfl ?_
        show zB _ _ _ _ _ _ [_] _ _
        refine z_iret rfl rfl ?_
        exact hK _ _ _ _ _ _ _ (zCP_q ⟨zTn_rf, (zQi_u (zQi_u (zQi_u zQi_rf (by unfold zIr; omega)) (by unfold zIr; omega)) (by unfold zIr; omega)), zQp_rf⟩ (zTm_rf _)) (by omega)
      ·
        refine z_aload_n (pc2 := 59) rfl rfl rfl ?_
        refine z_bipush (pc2 := 61) rfl rfl (by decide) ?_
        refine z_callV (y2 := 143) (as := [_]) (rest := []) (pc2 := 64) rfl rfl rfl rfl t1 rfl ?_
        refine z_inl ?_
        refine z_lv (lv2 := [(0, _), (1, _)]) ⟨rfl, rfl, trivial⟩ ?_
        refine z_aload_n (pc2 := 1) rfl rfl rfl ?_
        refine z_dup (pc2 := 2) rfl rfl rfl ?_
        refine z_getI (pc2 := 5) 0 rfl rfl rfl rfl rfl t1 ?_
        intro v20 e20 r20 k20
        clear k20
        clear e20
        refine z_iconst (pc2 := 6) rfl rfl ?_
        refine z_iadd (pc2 := 7) rfl rfl ?_
        refine z_putI_any (pc2 := 10) rfl rfl rfl rfl rfl rfl t1 (fun _ _ => True.intro) (fun u21 u21r => ?_)
        refine z_aload_n (pc2 := 11) rfl rfl rfl ?_
        refine z_iload_n (pc2 := 12) rfl rfl rfl ?_
        refine z_putI (pc2 := 15) rfl rfl rfl rfl rfl rfl t1 (by omega) True.intro ?_
        refine z_iload_n (pc2 := 16) rfl rfl rfl ?_
        refine z_iret rfl rfl ?_
        show zB _ _ _ _ _ _ [_] _ _
        refine z_iret rfl rfl ?_
        exact hK _ _ _ _ _ _ _ (zCP_q ⟨zTn_rf, (zQi_u (zQi_u zQi_rf (by unfold zIr; omega)) (by unfold zIr; omega)), zQp_rf⟩ (zTm_rf _)) (by omega)
  ·
    refine z_aload_n (pc2 := 20) rfl rfl rfl ?_
    refine z_iload (pc2 := 22) rfl rfl rfl ?_
    refine z_callV (y2 := 142) (as := [_]) (rest := []) (pc2 := 25) rfl rfl rfl rfl t1 rfl ?_
    refine z_inl ?_
    refine z_lv (lv2 := [(0, _), (1, _)]) ⟨rfl, rfl, trivial⟩ ?_
    refine z_aload_n (pc2 := 1) rfl rfl rfl ?_
    refine z_iload_n (pc2 := 2) rfl rfl rfl ?_
    refine z_putI (pc2 := 5) rfl rfl rfl rfl rfl rfl t1 (by omega) True.intro ?_
    refine z_iload_n (pc2 := 6) rfl rfl rfl ?_
    refine z_iret rfl rfl ?_
    show zB _ _ _ _ _ _ [_] _ _
    refine z_iret rfl rfl ?_
    exact hK _ _ _ _ _ _ _ (zCP_q ⟨zTn_rf, (zQi_u zQi_rf (by unfold zIr; omega)), zQp_rf⟩ (zTm_rf _)) (by omega)
set_option maxHeartbeats 8000000 in
theorem c_TypeRoom_spacing {L : Nat} {xs : Nat → Int32} {n sl : Nat} {T : Nat → zT} {I : Nat → Nat → Int} {P : Nat → Nat → Option Nat} {G : Nat → Nat → Int} {K : List zV → zH → Prop} {a c d e g : Int} (hn : 90 ≤ n) (hC : ∀ a, 1 ≤ a → a ≤ 55 → T a = zFixC a) (ha : zR a) (hc : zR c) (hd : zR d) (he : zR e) (hg : zR g) (hK : ∀ e n2 sl2 T2 I2 P2 G2, zCP n T T2 I I2 P P2 → (n ≤ n2 ∧ n2 ≤ n + 0 ∧ sl2 ≤ sl + 0) → K [.inl e] (n2, sl2, T2, I2, P2, G2)) : zX zMd L xs 113 [.inr (.inl (some 1)), .inl a, .inl c, .inl d, .inl e, .inl g] (n, sl, T, I, P, G) K := by
  have t1 : T 1 = (1, 11, [1]) := hC 1 (by decide) (by decide)
  refine z_inl ?_
  refine z_lv (lv2 := [(0, _), (1, _), (2, _), (3, _), (4, _), (5, _)]) ⟨rfl, rfl, rfl, rfl, rfl, rfl, trivial⟩ ?_
  refine z_iload_n (pc2 := 1) rfl rfl rfl ?_
  refine z_iconst (pc2 := 2) rfl rfl ?_
  refine z_bipush (pc2 := 4) rfl rfl (by decide) ?_
  refine z_callS (y2 := 155) (as := [_, _, _]) (rest := []) (pc2 := 7) rfl rfl rfl rfl ?_
  refine c_TypeRoom_isOutside (by omega) (by omega) (by omega) (fun e1 e1a e1b e1c => ?_)
  show zB _ _ _ _ _ _ [_] _ _
  refine z_if_ne (t := 40) (pc2 := 10) rfl rfl rfl (by omega) (fun c2 => ?_) (fun c2 => ?_)
  ·
    refine z_iconst (pc2 := 41) rfl rfl ?_
    refine z_goto (pc2 := 45) rfl rfl ?_
    refine z_istore (lv2 := [(6, _), (0, _), (1, _), (2, _), (3, _), (4, _), (5, _)]) (pc2 := 47) rfl rfl rfl rfl ?_
    refine z_aload_n (pc2 := 48) rfl rfl rfl ?_
    refine z_iload_n (pc2 := 49) rfl rfl rfl ?_
    refine z_iload (pc2 := 51) rfl rfl rfl ?_
    refine z_callV (y2 := 146) (as := [_, _]) (rest := []) (pc2 := 54) rfl rfl rfl rfl t1 rfl ?_
    refine c_TypeRoom_whyNotChange hn hC (by omega) (by omega) (fun w3 w3r w3z => ?_)
    show zB _ _ _ _ _ _ [_] _ _
    refine z_istore (lv2 := [(7, _), (6, _), (0, _), (1, _), (2, _), (3, _), (4, _), (5, _)]) (pc2 := 56) rfl rfl rfl rfl ?_
    refine z_iload (pc2 := 58) rfl rfl rfl ?_
    refine z_if_eq (t := 68) (pc2 := 61) rfl rfl rfl (by omega) (fun c4 => ?_) (fun c4 => ?_)
    ·
      refine z_aload_n (pc2 := 69) rfl rfl rfl ?_
      refine z_getP (pc2 := 72) rfl rfl rfl rfl t1 ?_
      intro p5 p5e p5k
      obtain ⟨b6, rfl, hb6⟩ := zHere p5k
      have tb6 := zRm_t hC hb6
      refine z_getP (pc2 := 75) rfl rfl rfl rfl tb6.1 ?_
      intro p7 p7e p7k
      replace p7k : p7 = some (b6 + 1) := p7k; clear p7e; subst p7k
      refine z_iload_n (pc2 := 76) rfl rfl rfl ?_
      refine z_aald (pc2 := 77) rfl rfl tb6.2.1 rfl (by omega) (by omega) (by omega) ?_
      intro p8 p8e p8k
      rcases p8k with rfl | ⟨q9, rfl, q99, n10, tq9, q9b⟩
      ·
        refine z_astore (lv2 := [(8, _), (7, _), (6, _), (0, _), (1, _), (2, _), (3, _), (4, _), (5, _)]) (pc2 := 79) rfl rfl rfl rfl ?_
        refine z_aload (pc2 := 81) rfl rfl rfl ?_
        refine z_ifnonnull (t := 91) (pc2 := 84) rfl rfl rfl (fun a h => by cases h) (fun _ => ?_)
        refine z_aload_n (pc2 := 85) rfl rfl rfl ?_
        refine z_bipush (pc2 := 87) rfl rfl (by decide) ?_
        refine z_callV (y2 := 143) (as := [_]) (rest := []) (pc2 := 90) rfl rfl rfl rfl t1 rfl ?_
        refine z_inl ?_
        refine z_lv (lv2 := [(0, _), (1, _)]) ⟨rfl, rfl, trivial⟩ ?_
        refine z_aload_n (pc2 := 1) rfl rfl rfl ?_
        refine z_dup (pc2 := 2) rfl rfl rfl ?_
        refine z_getI (pc2 := 5) 0 rfl rfl rfl rfl rfl t1 ?_
        intro v11 e11 r11 k11
        clear k11
        clear e11
        refine z_iconst (pc2 := 6) rfl rfl ?_
        refine z_iadd (pc2 := 7) rfl rfl ?_
        refine z_putI_any (pc2 := 10) rfl rfl rfl rfl rfl rfl t1 (fun _ _ => True.intro) (fun u12 u12r => ?_)
        refine z_aload_n (pc2 := 11) rfl rfl rfl ?_
        refine z_iload_n (pc2 := 12) rfl rfl rfl ?_
        refine z_putI (pc2 := 15) rfl rfl rfl rfl rfl rfl t1 (by omega) True.intro ?_
        refine z_iload_n (pc2 := 16) rfl rfl rfl ?_
        refine z_iret rfl rfl ?_
        show zB _ _ _ _ _ _ [_] _ _
        refine z_iret rfl rfl ?_
        exact hK _ _ _ _ _ _ _ (zCP_q ⟨zTn_rf, (zQi_u (zQi_u zQi_rf (by unfold zIr; omega)) (by unfold zIr; omega)), zQp_rf⟩ (zTm_rf _)) (by omega)
      ·
        replace tq9 : _ = ((1, 3, [n10]) : zT) := tq9
        refine zB_le tq9 trivial (fun q9l => ?_)
        refine z_astore (lv2 := [(8, _), (7, _), (6, _), (0, _), (1, _), (2, _), (3, _), (4, _), (5, _)]) (pc2 := 79) rfl rfl rfl rfl ?_
        refine z_aload (pc2 := 81) rfl rfl rfl ?_
        refine z_ifnonnull (t := 91) (pc2 := 84) rfl rfl rfl (fun _ _ => ?_) (fun h => by cases h)
        refine z_aload (pc2 := 93) rfl rfl rfl ?_
        refine z_iload_n (pc2 := 94) rfl rfl rfl ?_
        refine z_putI (pc2 := 97) rfl rfl rfl rfl rfl rfl tq9 (by omega) True.intro ?_
        refine z_aload (pc2 := 99) rfl rfl rfl ?_
        refine z_iload_n (pc2 := 100) rfl rfl rfl ?_
        refine z_putI (pc2 := 103) rfl rfl rfl rfl rfl rfl tq9 (by omega) True.intro ?_
        refine z_aload (pc2 := 105) rfl rfl rfl ?_
        refine z_iload (pc2 := 107) rfl rfl rfl ?_
        refine z_putI (pc2 := 110) rfl rfl rfl rfl rfl rfl tq9 (by omega) True.intro ?_
        refine z_aload (pc2 := 112) rfl rfl rfl ?_
        refine z_iload (pc2 := 114) rfl rfl rfl ?_
        refine z_putI (pc2 := 117) rfl rfl rfl rfl rfl rfl tq9 (by omega) True.intro ?_
        refine z_aload_n (pc2 := 118) rfl rfl rfl ?_
        refine z_iconst (pc2 := 119) rfl rfl ?_
        refine z_callV (y2 := 145) (as := [_]) (rest := []) (pc2 := 122) rfl rfl rfl rfl t1 rfl ?_
        refine z_inl ?_
        refine z_lv (lv2 := [(0, _), (1, _)]) ⟨rfl, rfl, trivial⟩ ?_
        refine z_aload_n (pc2 := 1) rfl rfl rfl ?_
        refine z_getP (pc2 := 4) rfl rfl rfl rfl t1 ?_
        intro p13 p13e p13k
        clear p13k; replace p13e : p13 = some b6 := by rw [p13e]; first | exact p5e | exact Eq.symm p5e | (simp [zU]; first | done | exact p5e | exact Eq.symm p5e | omega)
        subst p13e
        refine z_iconst (pc2 := 5) rfl rfl ?_
        refine z_putZ (pc2 := 8) rfl rfl rfl rfl rfl rfl tb6.1 (by omega) True.intro ?_
        refine z_aload_n (pc2 := 9) rfl rfl rfl ?_
        refine z_iload_n (pc2 := 10) rfl rfl rfl ?_
        refine z_callV (y2 := 144) (as := [_]) (rest := []) (pc2 := 13) rfl rfl rfl rfl t1 rfl ?_
        refine z_inl ?_
        refine z_lv (lv2 := [(0, _), (1, _)]) ⟨rfl, rfl, trivial⟩ ?_
        refine z_aload_n (pc2 := 1) rfl rfl rfl ?_
        refine z_iconst (pc2 := 2) rfl rfl ?_
        refine z_putI (pc2 := 5) rfl rfl rfl rfl rfl rfl t1 (by omega) True.intro ?_
        refine z_iload_n (pc2 := 6) rfl rfl rfl ?_
        refine z_iret rfl rfl ?_
        show zB _ _ _ _ _ _ [_] _ _
        refine z_iret rfl rfl ?_
        show zB _ _ _ _ _ _ [_] _ _
        refine z_iret rfl rfl ?_
        exact hK _ _ _ _ _ _ _ (zCP_q ⟨zTn_rf, (zQi_u (zQi_u (zQi_u (zQi_u (zQi_u (zQi_u zQi_rf (by unfold zIr; omega)) (by unfold zIr; omega)) (by unfold zIr; omega)) (by unfold zIr; omega)) (by unfold zIr; omega)) (by unfold zIr; omega)), zQp_rf⟩ (zTm_rf _)) (by omega)
    ·
      refine z_aload_n (pc2 := 62) rfl rfl rfl ?_
      refine z_iload (pc2 := 64) rfl rfl rfl ?_
      refine z_callV (y2 := 142) (as := [_]) (rest := []) (pc2 := 67) rfl rfl rfl rfl t1 rfl ?_
      refine z_inl ?_
      refine z_lv (lv2 := [(0, _), (1, _)]) ⟨rfl, rfl, trivial⟩ ?_
      refine z_aload_n (pc2 := 1) rfl rfl rfl ?_
      refine z_iload_n (pc2 := 2) rfl rfl rfl ?_
      refine z_putI (pc2 := 5) rfl rfl rfl rfl rfl rfl t1 (by omega) True.intro ?_
      refine z_iload_n (pc2 := 6) rfl rfl rfl ?_
      refine z_iret rfl rfl ?_
      show zB _ _ _ _ _ _ [_] _ _
      refine z_iret rfl rfl ?_
      exact hK _ _ _ _ _ _ _ (zCP_q ⟨zTn_rf, (zQi_u zQi_rf (by unfold zIr; omega)), zQp_rf⟩ (zTm_rf _)) (by omega)
  ·
    refine z_iload_n (pc2 := 11) rfl rfl rfl ?_
    refine z_iconst (pc2 := 12) rfl rfl ?_
    refine z_bipush (pc2 := 14) rfl rfl (by decide) ?_
    refine z_callS (y2 := 155) (as := [_, _, _]) (rest := []) (pc2 := 17) rfl rfl rfl rfl ?_
    refine c_TypeRoom_isOutside (by omega) (by omega) (by omega) (fun e14 e14a e14b e14c => ?_)
    show zB _ _ _ _ _ _ [_] _ _
    refine z_if_ne (t := 40) (pc2 := 20) rfl rfl rfl (by omega) (fun c15 => ?_) (fun c15 => ?_)
    ·
      refine z_iconst (pc2 := 41) rfl rfl ?_
      refine z_goto (pc2 := 45) rfl rfl ?_
      refine z_istore (lv2 := [(6, _), (0, _), (1, _), (2, _), (3, _), (4, _), (5, _)]) (pc2 := 47) rfl rfl rfl rfl ?_
      refine z_aload_n (pc2 := 48) rfl rfl rfl ?_
      refine z_iload_n (pc2 := 49) rfl rfl rfl ?_
      refine z_iload (pc2 := 51) rfl rfl rfl ?_
      refine z_callV (y2 := 146) (as := [_, _]) (rest := []) (pc2 := 54) rfl rfl rfl rfl t1 rfl ?_
      refine c_TypeRoom_whyNotChange hn hC (by omega) (by omega) (fun w16 w16r w16z => ?_)
      show zB _ _ _ _ _ _ [_] _ _
      refine z_istore (lv2 := [(7, _), (6, _), (0, _), (1, _), (2, _), (3, _), (4, _), (5, _)]) (pc2 := 56) rfl rfl rfl rfl ?_
      refine z_iload (pc2 := 58) rfl rfl rfl ?_
      refine z_if_eq (t := 68) (pc2 := 61) rfl rfl rfl (by omega) (fun c17 => ?_) (fun c17 => ?_)
      ·
        refine z_aload_n (pc2 := 69) rfl rfl rfl ?_
        refine z_getP (pc2 := 72) rfl rfl rfl rfl t1 ?_
        intro p18 p18e p18k
        obtain ⟨b19, rfl, hb19⟩ := zHere p18k
        have tb19 := zRm_t hC hb19
        refine z_getP (pc2 := 75) rfl rfl rfl rfl tb19.1 ?_
        intro p20 p20e p20k
        replace p20k : p20 = some (b19 + 1) := p20k; clear p20e; subst p20k
        refine z_iload_n (pc2 := 76) rfl rfl rfl ?_
        refine z_aald (pc2 := 77) rfl rfl tb19.2.1 rfl (by omega) (by omega) (by omega) ?_
        intro p21 p21e p21k
        rcases p21k with rfl | ⟨q22, rfl, q229, n23, tq22, q22b⟩
        ·
          refine z_astore (lv2 := [(8, _), (7, _), (6, _), (0, _), (1, _), (2, _), (3, _), (4, _), (5, _)]) (pc2 := 79) rfl rfl rfl rfl ?_
          refine z_aload (pc2 := 81) rfl rfl rfl ?_
          refine z_ifnonnull (t := 91) (pc2 := 84) rfl rfl rfl (fun a h => by cases h) (fun _ => ?_)
          refine z_aload_n (pc2 := 85) rfl rfl rfl ?_
          refine z_bipush (pc2 := 87) rfl rfl (by decide) ?_
          refine z_callV (y2 := 143) (as := [_]) (rest := []) (pc2 := 90) rfl rfl rfl rfl t1 rfl ?_
          refine z_inl ?_
          refine z_lv (lv2 := [(0, _), (1, _)]) ⟨rfl, rfl, trivial⟩ ?_
          refine z_aload_n (pc2 := 1) rfl rfl rfl ?_
          refine z_dup (pc2 := 2) rfl rfl rfl ?_
          refine z_getI (pc2 := 5) 0 rfl rfl rfl rfl rfl t1 ?_
          intro v24 e24 r24 k24
          clear k24
          clear e24
          refine z_iconst (pc2 := 6) rfl rfl ?_
          refine z_iadd (pc2 := 7) rfl rfl ?_
          refine z_putI_any (pc2 := 10) rfl rfl rfl rfl rfl rfl t1 (fun _ _ => True.intro) (fun u25 u25r => ?_)
          refine z_aload_n (pc2 := 11) rfl rfl rfl ?_
          refine z_iload_n (pc2 := 12) rfl rfl rfl ?_
          refine z_putI (pc2 := 15) rfl rfl rfl rfl rfl rfl t1 (by omega) True.intro ?_
          refine z_iload_n (pc2 := 16) rfl rfl rfl ?_
          refine z_iret rfl rfl ?_
          show zB _ _ _ _ _ _ [_] _ _
          refine z_iret rfl rfl ?_
          exact hK _ _ _ _ _ _ _ (zCP_q ⟨zTn_rf, (zQi_u (zQi_u zQi_rf (by unfold zIr; omega)) (by unfold zIr; omega)), zQp_rf⟩ (zTm_rf _)) (by omega)
        ·
          replace tq22 : _ = ((1, 3, [n23]) : zT) := tq22
          refine zB_le tq22 trivial (fun q22l => ?_)
          refine z_astore (lv2 := [(8, _), (7, _), (6, _), (0, _), (1, _), (2, _), (3, _), (4, _), (5, _)]) (pc2 := 79) rfl rfl rfl rfl ?_
          refine z_aload (pc2 := 81) rfl rfl rfl ?_
          refine z_ifnonnull (t := 91) (pc2 := 84) rfl rfl rfl (fun _ _ => ?_) (fun h => by cases h)
          refine z_aload (pc2 := 93) rfl rfl rfl ?_
          refine z_iload_n (pc2 := 94) rfl rfl rfl ?_
          refine z_putI (pc2 := 97) rfl rfl rfl rfl rfl rfl tq22 (by omega) True.intro ?_
          refine z_aload (pc2 := 99) rfl rfl rfl ?_
          refine z_iload_n (pc2 := 100) rfl rfl rfl ?_
          refine z_putI (pc2 := 103) rfl rfl rfl rfl rfl rfl tq22 (by omega) True.intro ?_
          refine z_aload (pc2 := 105) rfl rfl rfl ?_
          refine z_iload (pc2 := 107) rfl rfl rfl ?_
          refine z_putI (pc2 := 110) rfl rfl rfl rfl rfl rfl tq22 (by omega) True.intro ?_
          refine z_aload (pc2 := 112) rfl rfl rfl ?_
          refine z_iload (pc2 := 114) rfl rfl rfl ?_
          refine z_putI (pc2 := 117) rfl rfl rfl rfl rfl rfl tq22 (by omega) True.intro ?_
          refine z_aload_n (pc2 := 118) rfl rfl rfl ?_
          refine z_iconst (pc2 := 119) rfl rfl ?_
          refine z_callV (y2 := 145) (as := [_]) (rest := []) (pc2 := 122) rfl rfl rfl rfl t1 rfl ?_
          refine z_inl ?_
          refine z_lv (lv2 := [(0, _), (1, _)]) ⟨rfl, rfl, trivial⟩ ?_
          refine z_aload_n (pc2 := 1) rfl rfl rfl ?_
          refine z_getP (pc2 := 4) rfl rfl rfl rfl t1 ?_
          intro p26 p26e p26k
          clear p26k; replace p26e : p26 = some b19 := by rw [p26e]; first | exact p18e | exact Eq.symm p18e | (simp [zU]; first | done | exact p18e | exact Eq.symm p18e | omega)
          subst p26e
          refine z_iconst (pc2 := 5) rfl rfl ?_
          refine z_putZ (pc2 := 8) rfl rfl rfl rfl rfl rfl tb19.1 (by omega) True.intro ?_
          refine z_aload_n (pc2 := 9) rfl rfl rfl ?_
          refine z_iload_n (pc2 := 10) rfl rfl rfl ?_
          refine z_callV (y2 := 144) (as := [_]) (rest := []) (pc2 := 13) rfl rfl rfl rfl t1 rfl ?_
          refine z_inl ?_
          refine z_lv (lv2 := [(0, _), (1, _)]) ⟨rfl, rfl, trivial⟩ ?_
          refine z_aload_n (pc2 := 1) rfl rfl rfl ?_
          refine z_iconst (pc2 := 2) rfl rfl ?_
          refine z_putI (pc2 := 5) rfl rfl rfl rfl rfl rfl t1 (by omega) True.intro ?_
          refine z_iload_n (pc2 := 6) rfl rfl rfl ?_
          refine z_iret rfl rfl ?_
          show zB _ _ _ _ _ _ [_] _ _
          refine z_iret rfl rfl ?_
          show zB _ _ _ _ _ _ [_] _ _
          refine z_iret rfl rfl ?_
          exact hK _ _ _ _ _ _ _ (zCP_q ⟨zTn_rf, (zQi_u (zQi_u (zQi_u (zQi_u (zQi_u (zQi_u zQi_rf (by unfold zIr; omega)) (by unfold zIr; omega)) (by unfold zIr; omega)) (by unfold zIr; omega)) (by unfold zIr; omega)) (by unfold zIr; omega)), zQp_rf⟩ (zTm_rf _)) (by omega)
      ·
        refine z_aload_n (pc2 := 62) rfl rfl rfl ?_
        refine z_iload (pc2 := 64) rfl rfl rfl ?_
        refine z_callV (y2 := 142) (as := [_]) (rest := []) (pc2 := 67) rfl rfl rfl rfl t1 rfl ?_
        refine z_inl ?_
        refine z_lv (lv2 := [(0, _), (1, _)]) ⟨rfl, rfl, trivial⟩ ?_
        refine z_aload_n (pc2 := 1) rfl rfl rfl ?_
        refine z_iload_n (pc2 := 2) rfl rfl rfl ?_
        refine z_putI (pc2 := 5) rfl rfl rfl rfl rfl rfl t1 (by omega) True.intro ?_
        refine z_iload_n (pc2 := 6) rfl rfl rfl ?_
        refine z_iret rfl rfl ?_
        show zB _ _ _ _ _ _ [_] _ _
        refine z_iret rfl rfl ?_
        exact hK _ _ _ _ _ _ _ (zCP_q ⟨zTn_rf, (zQi_u zQi_rf (by unfold zIr; omega)), zQp_rf⟩ (zTm_rf _)) (by omega)
    ·
      refine z_iload (pc2 := 22) rfl rfl rfl ?_
      refine z_iconst (pc2 := 23) rfl rfl ?_
      refine z_iload_n (pc2 := 24) rfl rfl rfl ?_
      refine z_callS (y2 := 155) (as := [_, _, _]) (rest := []) (pc2 := 27) rfl rfl rfl rfl ?_
      refine c_TypeRoom_isOutside (by omega) (by omega) (by omega) (fun e27 e27a e27b e27c => ?_)
      show zB _ _ _ _ _ _ [_] _ _
      refine z_if_ne (t := 40) (pc2 := 30) rfl rfl rfl (by omega) (fun c28 => ?_) (fun c28 => ?_)
      ·
        refine z_iconst (pc2 := 41) rfl rfl ?_
        refine z_goto (pc2 := 45) rfl rfl ?_
        refine z_istore (lv2 := [(6, _), (0, _), (1, _), (2, _), (3, _), (4, _), (5, _)]) (pc2 := 47) rfl rfl rfl rfl ?_
        refine z_aload_n (pc2 := 48) rfl rfl rfl ?_
        refine z_iload_n (pc2 := 49) rfl rfl rfl ?_
        refine z_iload (pc2 := 51) rfl rfl rfl ?_
        refine z_callV (y2 := 146) (as := [_, _]) (rest := []) (pc2 := 54) rfl rfl rfl rfl t1 rfl ?_
        refine c_TypeRoom_whyNotChange hn hC (by omega) (by omega) (fun w29 w29r w29z => ?_)
        show zB _ _ _ _ _ _ [_] _ _
        refine z_istore (lv2 := [(7, _), (6, _), (0, _), (1, _), (2, _), (3, _), (4, _), (5, _)]) (pc2 := 56) rfl rfl rfl rfl ?_
        refine z_iload (pc2 := 58) rfl rfl rfl ?_
        refine z_if_eq (t := 68) (pc2 := 61) rfl rfl rfl (by omega) (fun c30 => ?_) (fun c30 => ?_)
        ·
          refine z_aload_n (pc2 := 69) rfl rfl rfl ?_
          refine z_getP (pc2 := 72) rfl rfl rfl rfl t1 ?_
          intro p31 p31e p31k
          obtain ⟨b32, rfl, hb32⟩ := zHere p31k
          have tb32 := zRm_t hC hb32
          refine z_getP (pc2 := 75) rfl rfl rfl rfl tb32.1 ?_
          intro p33 p33e p33k
          replace p33k : p33 = some (b32 + 1) := p33k; clear p33e; subst p33k
          refine z_iload_n (pc2 := 76) rfl rfl rfl ?_
          refine z_aald (pc2 := 77) rfl rfl tb32.2.1 rfl (by omega) (by omega) (by omega) ?_
          intro p34 p34e p34k
          rcases p34k with rfl | ⟨q35, rfl, q359, n36, tq35, q35b⟩
          ·
            refine z_astore (lv2 := [(8, _), (7, _), (6, _), (0, _), (1, _), (2, _), (3, _), (4, _), (5, _)]) (pc2 := 79) rfl rfl rfl rfl ?_
            refine z_aload (pc2 := 81) rfl rfl rfl ?_
            refine z_ifnonnull (t := 91) (pc2 := 84) rfl rfl rfl (fun a h => by cases h) (fun _ => ?_)
            refine z_aload_n (pc2 := 85) rfl rfl rfl ?_
            refine z_bipush (pc2 := 87) rfl rfl (by decide) ?_
            refine z_callV (y2 := 143) (as := [_]) (rest := []) (pc2 := 90) rfl rfl rfl rfl t1 rfl ?_
            refine z_inl ?_
            refine z_lv (lv2 := [(0, _), (1, _)]) ⟨rfl, rfl, trivial⟩ ?_
            refine z_aload_n (pc2 := 1) rfl rfl rfl ?_
            refine z_dup (pc2 := 2) rfl rfl rfl ?_
            refine z_getI (pc2 := 5) 0 rfl rfl rfl rfl rfl t1 ?_
            intro v37 e37 r37 k37
            clear k37
            clear e37
            refine z_iconst (pc2 := 6) rfl rfl ?_
            refine z_iadd (pc2 := 7) rfl rfl ?_
            refine z_putI_any (pc2 := 10) rfl rfl rfl rfl rfl rfl t1 (fun _ _ => True.intro) (fun u38 u38r => ?_)
            refine z_aload_n (pc2 := 11) rfl rfl rfl ?_
            refine z_iload_n (pc2 := 12) rfl rfl rfl ?_
            refine z_putI (pc2 := 15) rfl rfl rfl rfl rfl rfl t1 (by omega) True.intro ?_
            refine z_iload_n (pc2 := 16) rfl rfl rfl ?_
            refine z_iret rfl rfl ?_
            show zB _ _ _ _ _ _ [_] _ _
            refine z_iret rfl rfl ?_
            exact hK _ _ _ _ _ _ _ (zCP_q ⟨zTn_rf, (zQi_u (zQi_u zQi_rf (by unfold zIr; omega)) (by unfold zIr; omega)), zQp_rf⟩ (zTm_rf _)) (by omega)
          ·
            replace tq35 : _ = ((1, 3, [n36]) : zT) := tq35
            refine zB_le tq35 trivial (fun q35l => ?_)
            refine z_astore (lv2 := [(8, _), (7, _), (6, _), (0, _), (1, _), (2, _), (3, _), (4, _), (5, _)]) (pc2 := 79) rfl rfl rfl rfl ?_
            refine z_aload (pc2 := 81) rfl rfl rfl ?_
            refine z_ifnonnull (t := 91) (pc2 := 84) rfl rfl rfl (fun _ _ => ?_) (fun h => by cases h)
            refine z_aload (pc2 := 93) rfl rfl rfl ?_
            refine z_iload_n (pc2 := 94) rfl rfl rfl ?_
            refine z_putI (pc2 := 97) rfl rfl rfl rfl rfl rfl tq35 (by omega) True.intro ?_
            refine z_aload (pc2 := 99) rfl rfl rfl ?_
            refine z_iload_n (pc2 := 100) rfl rfl rfl ?_
            refine z_putI (pc2 := 103) rfl rfl rfl rfl rfl rfl tq35 (by omega) True.intro ?_
            refine z_aload (pc2 := 105) rfl rfl rfl ?_
            refine z_iload (pc2 := 107) rfl rfl rfl ?_
            refine z_putI (pc2 := 110) rfl rfl rfl rfl rfl rfl tq35 (by omega) True.intro ?_
            refine z_aload (pc2 := 112) rfl rfl rfl ?_
            refine z_iload (pc2 := 114) rfl rfl rfl ?_
            refine z_putI (pc2 := 117) rfl rfl rfl rfl rfl rfl tq35 (by omega) True.intro ?_
            refine z_aload_n (pc2 := 118) rfl rfl rfl ?_
            refine z_iconst (pc2 := 119) rfl rfl ?_
            refine z_callV (y2 := 145) (as := [_]) (rest := []) (pc2 := 122) rfl rfl rfl rfl t1 rfl ?_
            refine z_inl ?_
            refine z_lv (lv2 := [(0, _), (1, _)]) ⟨rfl, rfl, trivial⟩ ?_
            refine z_aload_n (pc2 := 1) rfl rfl rfl ?_
            refine z_getP (pc2 := 4) rfl rfl rfl rfl t1 ?_
            intro p39 p39e p39k
            clear p39k; replace p39e : p39 = some b32 := by rw [p39e]; first | exact p31e | exact Eq.symm p31e | (simp [zU]; first | done | exact p31e | exact Eq.symm p31e | omega)
            subst p39e
            refine z_iconst (pc2 := 5) rfl rfl ?_
            refine z_putZ (pc2 := 8) rfl rfl rfl rfl rfl rfl tb32.1 (by omega) True.intro ?_
            refine z_aload_n (pc2 := 9) rfl rfl rfl ?_
            refine z_iload_n (pc2 := 10) rfl rfl rfl ?_
            refine z_callV (y2 := 144) (as := [_]) (rest := []) (pc2 := 13) rfl rfl rfl rfl t1 rfl ?_
            refine z_inl ?_
            refine z_lv (lv2 := [(0, _), (1, _)]) ⟨rfl, rfl, trivial⟩ ?_
            refine z_aload_n (pc2 := 1) rfl rfl rfl ?_
            refine z_iconst (pc2 := 2) rfl rfl ?_
            refine z_putI (pc2 := 5) rfl rfl rfl rfl rfl rfl t1 (by omega) True.intro ?_
            refine z_iload_n (pc2 := 6) rfl rfl rfl ?_
            refine z_iret rfl rfl ?_
            show zB _ _ _ _ _ _ [_] _ _
            refine z_iret rfl rfl ?_
            show zB _ _ _ _ _ _ [_] _ _
            refine z_iret rfl rfl ?_
            exact hK _ _ _ _ _ _ _ (zCP_q ⟨zTn_rf, (zQi_u (zQi_u (zQi_u (zQi_u (zQi_u (zQi_u zQi_rf (by unfold zIr; omega)) (by unfold zIr; omega)) (by unfold zIr; omega)) (by unfold zIr; omega)) (by unfold zIr; omega)) (by unfold zIr; omega)), zQp_rf⟩ (zTm_rf _)) (by omega)
        ·
          refine z_aload_n (pc2 := 62) rfl rfl rfl ?_
          refine z_iload (pc2 := 64) rfl rfl rfl ?_
          refine z_callV (y2 := 142) (as := [_]) (rest := []) (pc2 := 67) rfl rfl rfl rfl t1 rfl ?_
          refine z_inl ?_
          refine z_lv (lv2 := [(0, _), (1, _)]) ⟨rfl, rfl, trivial⟩ ?_
          refine z_aload_n (pc2 := 1) rfl rfl rfl ?_
          refine z_iload_n (pc2 := 2) rfl rfl rfl ?_
          refine z_putI (pc2 := 5) rfl rfl rfl rfl rfl rfl t1 (by omega) True.intro ?_
          refine z_iload_n (pc2 := 6) rfl rfl rfl ?_
          refine z_iret rfl rfl ?_
          show zB _ _ _ _ _ _ [_] _ _
          refine z_iret rfl rfl ?_
          exact hK _ _ _ _ _ _ _ (zCP_q ⟨zTn_rf, (zQi_u zQi_rf (by unfold zIr; omega)), zQp_rf⟩ (zTm_rf _)) (by omega)
      ·
        refine z_iload (pc2 := 32) rfl rfl rfl ?_
        refine z_iconst (pc2 := 33) rfl rfl ?_
        refine z_iconst (pc2 := 34) rfl rfl ?_
        refine z_callS (y2 := 155) (as := [_, _, _]) (rest := []) (pc2 := 37) rfl rfl rfl rfl ?_
        refine c_TypeRoom_isOutside (by omega) (by omega) (by omega) (fun e40 e40a e40b e40c => ?_)
        show zB _ _ _ _ _ _ [_] _ _
        refine z_if_eq (t := 44) (pc2 := 40) rfl rfl rfl (by omega) (fun c41 => ?_) (fun c41 => ?_)
        ·
          refine z_iconst (pc2 := 45) rfl rfl ?_
          refine z_istore (lv2 := [(6, _), (0, _), (1, _), (2, _), (3, _), (4, _), (5, _)]) (pc2 := 47) rfl rfl rfl rfl ?_
          refine z_aload_n (pc2 := 48) rfl rfl rfl ?_
          refine z_iload_n (pc2 := 49) rfl rfl rfl ?_
          refine z_iload (pc2 := 51) rfl rfl rfl ?_
          refine z_callV (y2 := 146) (as := [_, _]) (rest := []) (pc2 := 54) rfl rfl rfl rfl t1 rfl ?_
          refine c_TypeRoom_whyNotChange hn hC (by omega) (by omega) (fun w42 w42r w42z => ?_)
          show zB _ _ _ _ _ _ [_] _ _
          refine z_istore (lv2 := [(7, _), (6, _), (0, _), (1, _), (2, _), (3, _), (4, _), (5, _)]) (pc2 := 56) rfl rfl rfl rfl ?_
          refine z_iload (pc2 := 58) rfl rfl rfl ?_
          refine z_if_eq (t := 68) (pc2 := 61) rfl rfl rfl (by omega) (fun c43 => ?_) (fun c43 => ?_)
          ·
            refine z_aload_n (pc2 := 69) rfl rfl rfl ?_
            refine z_getP (pc2 := 72) rfl rfl rfl rfl t1 ?_
            intro p44 p44e p44k
            obtain ⟨b45, rfl, hb45⟩ := zHere p44k
            have tb45 := zRm_t hC hb45
            refine z_getP (pc2 := 75) rfl rfl rfl rfl tb45.1 ?_
            intro p46 p46e p46k
            replace p46k : p46 = some (b45 + 1) := p46k; clear p46e; subst p46k
            refine z_iload_n (pc2 := 76) rfl rfl rfl ?_
            refine z_aald (pc2 := 77) rfl rfl tb45.2.1 rfl (by omega) (by omega) (by omega) ?_
            intro p47 p47e p47k
            rcases p47k with rfl | ⟨q48, rfl, q489, n49, tq48, q48b⟩
            ·
              refine z_astore (lv2 := [(8, _), (7, _), (6, _), (0, _), (1, _), (2, _), (3, _), (4, _), (5, _)]) (pc2 := 79) rfl rfl rfl rfl ?_
              refine z_aload (pc2 := 81) rfl rfl rfl ?_
              refine z_ifnonnull (t := 91) (pc2 := 84) rfl rfl rfl (fun a h => by cases h) (fun _ => ?_)
              refine z_aload_n (pc2 := 85) rfl rfl rfl ?_
              refine z_bipush (pc2 := 87) rfl rfl (by decide) ?_
              refine z_callV (y2 := 143) (as := [_]) (rest := []) (pc2 := 90) rfl rfl rfl rfl t1 rfl ?_
              refine z_inl ?_
              refine z_lv (lv2 := [(0, _), (1, _)]) ⟨rfl, rfl, trivial⟩ ?_
              refine z_aload_n (pc2 := 1) rfl rfl rfl ?_
              refine z_dup (pc2 := 2) rfl rfl rfl ?_
              refine z_getI (pc2 := 5) 0 rfl rfl rfl rfl rfl t1 ?_
              intro v50 e50 r50 k50
              clear k50
              clear e50
              refine z_iconst (pc2 := 6) rfl rfl ?_
              refine z_iadd (pc2 := 7) rfl rfl ?_
              refine z_putI_any (pc2 := 10) rfl rfl rfl rfl rfl rfl t1 (fun _ _ => True.intro) (fun u51 u51r => ?_)
              refine z_aload_n (pc2 := 11) rfl rfl rfl ?_
              refine z_iload_n (pc2 := 12) rfl rfl rfl ?_
              refine z_putI (pc2 := 15) rfl rfl rfl rfl rfl rfl t1 (by omega) True.intro ?_
              refine z_iload_n (pc2 := 16) rfl rfl rfl ?_
              refine z_iret rfl rfl ?_
              show zB _ _ _ _ _ _ [_] _ _
              refine z_iret rfl rfl ?_
              exact hK _ _ _ _ _ _ _ (zCP_q ⟨zTn_rf, (zQi_u (zQi_u zQi_rf (by unfold zIr; omega)) (by unfold zIr; omega)), zQp_rf⟩ (zTm_rf _)) (by omega)
            ·
              replace tq48 : _ = ((1, 3, [n49]) : zT) := tq48
              refine zB_le tq48 trivial (fun q48l => ?_)
              refine z_astore (lv2 := [(8, _), (7, _), (6, _), (0, _), (1, _), (2, _), (3, _), (4, _), (5, _)]) (pc2 := 79) rfl rfl rfl rfl ?_
              refine z_aload (pc2 := 81) rfl rfl rfl ?_
              refine z_ifnonnull (t := 91) (pc2 := 84) rfl rfl rfl (fun _ _ => ?_) (fun h => by cases h)
              refine z_aload (pc2 := 93) rfl rfl rfl ?_
              refine z_iload_n (pc2 := 94) rfl rfl rfl ?_
              refine z_putI (pc2 := 97) rfl rfl rfl rfl rfl rfl tq48 (by omega) True.intro ?_
              refine z_aload (pc2 := 99) rfl rfl rfl ?_
              refine z_iload_n (pc2 := 100) rfl rfl rfl ?_
              refine z_putI (pc2 := 103) rfl rfl rfl rfl rfl rfl tq48 (by omega) True.intro ?_
              refine z_aload (pc2 := 105) rfl rfl rfl ?_
              refine z_iload (pc2 := 107) rfl rfl rfl ?_
              refine z_putI (pc2 := 110) rfl rfl rfl rfl rfl rfl tq48 (by omega) True.intro ?_
              refine z_aload (pc2 := 112) rfl rfl rfl ?_
              refine z_iload (pc2 := 114) rfl rfl rfl ?_
              refine z_putI (pc2 := 117) rfl rfl rfl rfl rfl rfl tq48 (by omega) True.intro ?_
              refine z_aload_n (pc2 := 118) rfl rfl rfl ?_
              refine z_iconst (pc2 := 119) rfl rfl ?_
              refine z_callV (y2 := 145) (as := [_]) (rest := []) (pc2 := 122) rfl rfl rfl rfl t1 rfl ?_
              refine z_inl ?_
              refine z_lv (lv2 := [(0, _), (1, _)]) ⟨rfl, rfl, trivial⟩ ?_
              refine z_aload_n (pc2 := 1) rfl rfl rfl ?_
              refine z_getP (pc2 := 4) rfl rfl rfl rfl t1 ?_
              intro p52 p52e p52k
              clear p52k; replace p52e : p52 = some b45 := by rw [p52e]; first | exact p44e | exact Eq.symm p44e | (simp [zU]; first | done | exact p44e | exact Eq.symm p44e | omega)
              subst p52e
              refine z_iconst (pc2 := 5) rfl rfl ?_
              refine z_putZ (pc2 := 8) rfl rfl rfl rfl rfl rfl tb45.1 (by omega) True.intro ?_
              refine z_aload_n (pc2 := 9) rfl rfl rfl ?_
              refine z_iload_n (pc2 := 10) rfl rfl rfl ?_
              refine z_callV (y2 := 144) (as := [_]) (rest := []) (pc2 := 13) rfl rfl rfl rfl t1 rfl ?_
              refine z_inl ?_
              refine z_lv (lv2 := [(0, _), (1, _)]) ⟨rfl, rfl, trivial⟩ ?_
              refine z_aload_n (pc2 := 1) rfl rfl rfl ?_
              refine z_iconst (pc2 := 2) rfl rfl ?_
              refine z_putI (pc2 := 5) rfl rfl rfl rfl rfl rfl t1 (by omega) True.intro ?_
              refine z_iload_n (pc2 := 6) rfl rfl rfl ?_
              refine z_iret rfl rfl ?_
              show zB _ _ _ _ _ _ [_] _ _
              refine z_iret rfl rfl ?_
              show zB _ _ _ _ _ _ [_] _ _
              refine z_iret rfl rfl ?_
              exact hK _ _ _ _ _ _ _ (zCP_q ⟨zTn_rf, (zQi_u (zQi_u (zQi_u (zQi_u (zQi_u (zQi_u zQi_rf (by unfold zIr; omega)) (by unfold zIr; omega)) (by unfold zIr; omega)) (by unfold zIr; omega)) (by unfold zIr; omega)) (by unfold zIr; omega)), zQp_rf⟩ (zTm_rf _)) (by omega)
          ·
            refine z_aload_n (pc2 := 62) rfl rfl rfl ?_
            refine z_iload (pc2 := 64) rfl rfl rfl ?_
            refine z_callV (y2 := 142) (as := [_]) (rest := []) (pc2 := 67) rfl rfl rfl rfl t1 rfl ?_
            refine z_inl ?_
            refine z_lv (lv2 := [(0, _), (1, _)]) ⟨rfl, rfl, trivial⟩ ?_
            refine z_aload_n (pc2 := 1) rfl rfl rfl ?_
            refine z_iload_n (pc2 := 2) rfl rfl rfl ?_
            refine z_putI (pc2 := 5) rfl rfl rfl rfl rfl rfl t1 (by omega) True.intro ?_
            refine z_iload_n (pc2 := 6) rfl rfl rfl ?_
            refine z_iret rfl rfl ?_
            show zB _ _ _ _ _ _ [_] _ _
            refine z_iret rfl rfl ?_
            exact hK _ _ _ _ _ _ _ (zCP_q ⟨zTn_rf, (zQi_u zQi_rf (by unfold zIr; omega)), zQp_rf⟩ (zTm_rf _)) (by omega)
        ·
          refine z_iconst (pc2 := 41) rfl rfl ?_
          refine z_goto (pc2 := 45) rfl rfl ?_
          refine z_istore (lv2 := [(6, _), (0, _), (1, _), (2, _), (3, _), (4, _), (5, _)]) (pc2 := 47) rfl rfl rfl rfl ?_
          refine z_aload_n (pc2 := 48) rfl rfl rfl ?_
          refine z_iload_n (pc2 := 49) rfl rfl rfl ?_
          refine z_iload (pc2 := 51) rfl rfl rfl ?_
          refine z_callV (y2 := 146) (as := [_, _]) (rest := []) (pc2 := 54) rfl rfl rfl rfl t1 rfl ?_
          refine c_TypeRoom_whyNotChange hn hC (by omega) (by omega) (fun w53 w53r w53z => ?_)
          show zB _ _ _ _ _ _ [_] _ _
          refine z_istore (lv2 := [(7, _), (6, _), (0, _), (1, _), (2, _), (3, _), (4, _), (5, _)]) (pc2 := 56) rfl rfl rfl rfl ?_
          refine z_iload (pc2 := 58) rfl rfl rfl ?_
          refine z_if_eq (t := 68) (pc2 := 61) rfl rfl rfl (by omega) (fun c54 => ?_) (fun c54 => ?_)
          ·
            refine z_aload_n (pc2 := 69) rfl rfl rfl ?_
            refine z_getP (pc2 := 72) rfl rfl rfl rfl t1 ?_
            intro p55 p55e p55k
            obtain ⟨b56, rfl, hb56⟩ := zHere p55k
            have tb56 := zRm_t hC hb56
            refine z_getP (pc2 := 75) rfl rfl rfl rfl tb56.1 ?_
            intro p57 p57e p57k
            replace p57k : p57 = some (b56 + 1) := p57k; clear p57e; subst p57k
            refine z_iload_n (pc2 := 76) rfl rfl rfl ?_
            refine z_aald (pc2 := 77) rfl rfl tb56.2.1 rfl (by omega) (by omega) (by omega) ?_
            intro p58 p58e p58k
            rcases p58k with rfl | ⟨q59, rfl, q599, n60, tq59, q59b⟩
            ·
              refine z_astore (lv2 := [(8, _), (7, _), (6, _), (0, _), (1, _), (2, _), (3, _), (4, _), (5, _)]) (pc2 := 79) rfl rfl rfl rfl ?_
              refine z_aload (pc2 := 81) rfl rfl rfl ?_
              refine z_ifnonnull (t := 91) (pc2 := 84) rfl rfl rfl (fun a h => by cases h) (fun _ => ?_)
              refine z_aload_n (pc2 := 85) rfl rfl rfl ?_
              refine z_bipush (pc2 := 87) rfl rfl (by decide) ?_
              refine z_callV (y2 := 143) (as := [_]) (rest := []) (pc2 := 90) rfl rfl rfl rfl t1 rfl ?_
              refine z_inl ?_
              refine z_lv (lv2 := [(0, _), (1, _)]) ⟨rfl, rfl, trivial⟩ ?_
              refine z_aload_n (pc2 := 1) rfl rfl rfl ?_
              refine z_dup (pc2 := 2) rfl rfl rfl ?_
              refine z_getI (pc2 := 5) 0 rfl rfl rfl rfl rfl t1 ?_
              intro v61 e61 r61 k61
              clear k61
              clear e61
              refine z_iconst (pc2 := 6) rfl rfl ?_
              refine z_iadd (pc2 := 7) rfl rfl ?_
              refine z_putI_any (pc2 := 10) rfl rfl rfl rfl rfl rfl t1 (fun _ _ => True.intro) (fun u62 u62r => ?_)
              refine z_aload_n (pc2 := 11) rfl rfl rfl ?_
              refine z_iload_n (pc2 := 12) rfl rfl rfl ?_
              refine z_putI (pc2 := 15) rfl rfl rfl rfl rfl rfl t1 (by omega) True.intro ?_
              refine z_iload_n (pc2 := 16) rfl rfl rfl ?_
              refine z_iret rfl rfl ?_
              show zB _ _ _ _ _ _ [_] _ _
              refine z_iret rfl rfl ?_
              exact hK _ _ _ _ _ _ _ (zCP_q ⟨zTn_rf, (zQi_u (zQi_u zQi_rf (by unfold zIr; omega)) (by unfold zIr; omega)), zQp_rf⟩ (zTm_rf _)) (by omega)
            ·
              replace tq59 : _ = ((1, 3, [n60]) : zT) := tq59
              refine zB_le tq59 trivial (fun q59l => ?_)
              refine z_astore (lv2 := [(8, _), (7, _), (6, _), (0, _), (1, _), (2, _), (3, _), (4, _), (5, _)]) (pc2 := 79) rfl rfl rfl rfl ?_
              refine z_aload (pc2 := 81) rfl rfl rfl ?_
              refine z_ifnonnull (t := 91) (pc2 := 84) rfl rfl rfl (fun _ _ => ?_) (fun h => by cases h)
              refine z_aload (pc2 := 93) rfl rfl rfl ?_
              refine z_iload_n (pc2 := 94) rfl rfl rfl ?_
              refine z_putI (pc2 := 97) rfl rfl rfl rfl rfl rfl tq59 (by omega) True.intro ?_
              refine z_aload (pc2 := 99) rfl rfl rfl ?_
              refine z_iload_n (pc2 := 100) rfl rfl rfl ?_
              refine z_putI (pc2 := 103) rfl rfl rfl rfl rfl rfl tq59 (by omega) True.intro ?_
              refine z_aload (pc2 := 105) rfl rfl rfl ?_
              refine z_iload (pc2 := 107) rfl rfl rfl ?_
              refine z_putI (pc2 := 110) rfl rfl rfl rfl rfl rfl tq59 (by omega) True.intro ?_
              refine z_aload (pc2 := 112) rfl rfl rfl ?_
              refine z_iload (pc2 := 114) rfl rfl rfl ?_
              refine z_putI (pc2 := 117) rfl rfl rfl rfl rfl rfl tq59 (by omega) True.intro ?_
              refine z_aload_n (pc2 := 118) rfl rfl rfl ?_
              refine z_iconst (pc2 := 119) rfl rfl ?_
              refine z_callV (y2 := 145) (as := [_]) (rest := []) (pc2 := 122) rfl rfl rfl rfl t1 rfl ?_
              refine z_inl ?_
              refine z_lv (lv2 := [(0, _), (1, _)]) ⟨rfl, rfl, trivial⟩ ?_
              refine z_aload_n (pc2 := 1) rfl rfl rfl ?_
              refine z_getP (pc2 := 4) rfl rfl rfl rfl t1 ?_
              intro p63 p63e p63k
              clear p63k; replace p63e : p63 = some b56 := by rw [p63e]; first | exact p55e | exact Eq.symm p55e | (simp [zU]; first | done | exact p55e | exact Eq.symm p55e | omega)
              subst p63e
              refine z_iconst (pc2 := 5) rfl rfl ?_
              refine z_putZ (pc2 := 8) rfl rfl rfl rfl rfl rfl tb56.1 (by omega) True.intro ?_
              refine z_aload_n (pc2 := 9) rfl rfl rfl ?_
              refine z_iload_n (pc2 := 10) rfl rfl rfl ?_
              refine z_callV (y2 := 144) (as := [_]) (rest := []) (pc2 := 13) rfl rfl rfl rfl t1 rfl ?_
              refine z_inl ?_
              refine z_lv (lv2 := [(0, _), (1, _)]) ⟨rfl, rfl, trivial⟩ ?_
              refine z_aload_n (pc2 := 1) rfl rfl rfl ?_
              refine z_iconst (pc2 := 2) rfl rfl ?_
              refine z_putI (pc2 := 5) rfl rfl rfl rfl rfl rfl t1 (by omega) True.intro ?_
              refine z_iload_n (pc2 := 6) rfl rfl rfl ?_
              refine z_iret rfl rfl ?_
              show zB _ _ _ _ _ _ [_] _ _
              refine z_iret rfl rfl ?_
              show zB _ _ _ _ _ _ [_] _ _
              refine z_iret rfl rfl ?_
              exact hK _ _ _ _ _ _ _ (zCP_q ⟨zTn_rf, (zQi_u (zQi_u (zQi_u (zQi_u (zQi_u (zQi_u zQi_rf (by unfold zIr; omega)) (by unfold zIr; omega)) (by unfold zIr; omega)) (by unfold zIr; omega)) (by unfold zIr; omega)) (by unfold zIr; omega)), zQp_rf⟩ (zTm_rf _)) (by omega)
          ·
            refine z_aload_n (pc2 := 62) rfl rfl rfl ?_
            refine z_iload (pc2 := 64) rfl rfl rfl ?_
            refine z_callV (y2 := 142) (as := [_]) (rest := []) (pc2 := 67) rfl rfl rfl rfl t1 rfl ?_
            refine z_inl ?_
            refine z_lv (lv2 := [(0, _), (1, _)]) ⟨rfl, rfl, trivial⟩ ?_
            refine z_aload_n (pc2 := 1) rfl rfl rfl ?_
            refine z_iload_n (pc2 := 2) rfl rfl rfl ?_
            refine z_putI (pc2 := 5) rfl rfl rfl rfl rfl rfl t1 (by omega) True.intro ?_
            refine z_iload_n (pc2 := 6) rfl rfl rfl ?_
            refine z_iret rfl rfl ?_
            show zB _ _ _ _ _ _ [_] _ _
            refine z_iret rfl rfl ?_
            exact hK _ _ _ _ _ _ _ (zCP_q ⟨zTn_rf, (zQi_u zQi_rf (by unfold zIr; omega)), zQp_rf⟩ (zTm_rf _)) (by omega)
set_option maxHeartbeats 8000000 in
theorem c_TypeRoom_buy {L : Nat} {xs : Nat → Int32} {n sl : Nat} {T : Nat → zT} {I : Nat → Nat → Int} {P : Nat → Nat → Option Nat} {G : Nat → Nat → Int} {K : List zV → zH → Prop} {a c d e : Int} (hn : 90 ≤ n) (hC : ∀ a, 1 ≤ a → a ≤ 55 → T a = zFixC a) (ha : zR a) (hc : zR c) (hd : zR d) (he : zR e) (hK : ∀ e n2 sl2 T2 I2 P2 G2, zCP n T T2 I I2 P P2 → (n ≤ n2 ∧ n2 ≤ n + 0 ∧ sl2 ≤ sl + 0) → K [.inl e] (n2, sl2, T2, I2, P2, G2)) : zX zMd L xs 114 [.inr (.inl (some 1)), .inl a, .inl c, .inl d, .inl e] (n, sl, T, I, P, G) K := by
  have t1 : T 1 = (1, 11, [1]) := hC 1 (by decide) (by decide)
  refine z_inl ?_
  refine z_lv (lv2 := [(0, _), (1, _), (2, _), (3, _), (4, _)]) ⟨rfl, rfl, rfl, rfl, rfl, trivial⟩ ?_
  refine z_iload_n (pc2 := 1) rfl rfl rfl ?_
  refine z_callS (y2 := 151) (as := [_]) (rest := []) (pc2 := 4) rfl rfl rfl rfl ?_
  refine z_inl ?_
  refine z_lv (lv2 := [(0, _)]) ⟨rfl, trivial⟩ ?_
  refine z_iload_n (pc2 := 1) rfl rfl rfl ?_
  refine z_iconst (pc2 := 2) rfl rfl ?_
  refine z_iconst (pc2 := 3) rfl rfl ?_
  refine z_callS (y2 := 155) (as := [_, _, _]) (rest := []) (pc2 := 6) rfl rfl rfl rfl ?_
  refine c_TypeRoom_isOutside (by omega) (by omega) (by omega) (fun e1 e1a e1b e1c => ?_)
  show zB _ _ _ _ _ _ [_] _ _
  refine z_zret rfl rfl (by omega) ?_
  show zB _ _ _ _ _ _ [_] _ _
  refine z_if_ne (t := 26) (pc2 := 7) rfl rfl rfl (by omega) (fun c2 => ?_) (fun c2 => ?_)
  ·
    refine z_aload_n (pc2 := 27) rfl rfl rfl ?_
    refine z_iconst (pc2 := 28) rfl rfl ?_
    refine z_callV (y2 := 142) (as := [_]) (rest := []) (pc2 := 31) rfl rfl rfl rfl t1 rfl ?_
    refine z_inl ?_
    refine z_lv (lv2 := [(0, _), (1, _)]) ⟨rfl, rfl, trivial⟩ ?_
    refine z_aload_n (pc2 := 1) rfl rfl rfl ?_
    refine z_iload_n (pc2 := 2) rfl rfl rfl ?_
    refine z_putI (pc2 := 5) rfl rfl rfl rfl rfl rfl t1 (by omega) True.intro ?_
    refine z_iload_n (pc2 := 6) rfl rfl rfl ?_
    refine z_iret rfl rfl ?_
    show zB _ _ _ _ _ _ [_] _ _
    refine z_iret rfl rfl ?_
    exact hK _ _ _ _ _ _ _ (zCP_q ⟨zTn_rf, (zQi_u zQi_rf (by unfold zIr; omega)), zQp_rf⟩ (zTm_rf _)) (by omega)
  ·
    refine z_iload_n (pc2 := 8) rfl rfl rfl ?_
    refine z_callS (y2 := 154) (as := [_]) (rest := []) (pc2 := 11) rfl rfl rfl rfl ?_
    refine z_inl ?_
    refine z_lv (lv2 := [(0, _)]) ⟨rfl, trivial⟩ ?_
    refine z_iload_n (pc2 := 1) rfl rfl rfl ?_
    refine z_iconst (pc2 := 2) rfl rfl ?_
    refine z_iconst (pc2 := 3) rfl rfl ?_
    refine z_callS (y2 := 155) (as := [_, _, _]) (rest := []) (pc2 := 6) rfl rfl rfl rfl ?_
    refine c_TypeRoom_isOutside (by omega) (by omega) (by omega) (fun e3 e3a e3b e3c => ?_)
    show zB _ _ _ _ _ _ [_] _ _
    refine z_zret rfl rfl (by omega) ?_
    show zB _ _ _ _ _ _ [_] _ _
    refine z_if_ne (t := 26) (pc2 := 14) rfl rfl rfl (by omega) (fun c4 => ?_) (fun c4 => ?_)
    ·
      refine z_aload_n (pc2 := 27) rfl rfl rfl ?_
      refine z_iconst (pc2 := 28) rfl rfl ?_
      refine z_callV (y2 := 142) (as := [_]) (rest := []) (pc2 := 31) rfl rfl rfl rfl t1 rfl ?_
      refine z_inl ?_
      refine z_lv (lv2 := [(0, _), (1, _)]) ⟨rfl, rfl, trivial⟩ ?_
      refine z_aload_n (pc2 := 1) rfl rfl rfl ?_
      refine z_iload_n (pc2 := 2) rfl rfl rfl ?_
      refine z_putI (pc2 := 5) rfl rfl rfl rfl rfl rfl t1 (by omega) True.intro ?_
      refine z_iload_n (pc2 := 6) rfl rfl rfl ?_
      refine z_iret rfl rfl ?_
      show zB _ _ _ _ _ _ [_] _ _
      refine z_iret rfl rfl ?_
      exact hK _ _ _ _ _ _ _ (zCP_q ⟨zTn_rf, (zQi_u zQi_rf (by unfold zIr; omega)), zQp_rf⟩ (zTm_rf _)) (by omega)
    ·
      refine z_iload (pc2 := 16) rfl rfl rfl ?_
      refine z_iconst (pc2 := 17) rfl rfl ?_
      refine z_sipush (pc2 := 20) rfl rfl (by decide) ?_
      refine z_callS (y2 := 155) (as := [_, _, _]) (rest := []) (pc2 := 23) rfl rfl rfl rfl ?_
      refine c_TypeRoom_isOutside (by omega) (by omega) (by omega) (fun e5 e5a e5b e5c => ?_)
      show zB _ _ _ _ _ _ [_] _ _
      refine z_if_eq (t := 32) (pc2 := 26) rfl rfl rfl (by omega) (fun c6 => ?_) (fun c6 => ?_)
      ·
        refine z_aload_n (pc2 := 33) rfl rfl rfl ?_
        refine z_getP (pc2 := 36) rfl rfl rfl rfl t1 ?_
        intro p7 p7e p7k
        obtain ⟨b8, rfl, hb8⟩ := zHere p7k
        have tb8 := zRm_t hC hb8
        refine z_callV (y2 := 80) (as := []) (rest := []) (pc2 := 39) rfl rfl rfl rfl tb8.1 rfl ?_
        refine c_Room_bought hn hC (by omega) (fun w9 => ?_)
        show zB _ _ _ _ _ _ [_] _ _
        refine z_iload (pc2 := 41) rfl rfl rfl ?_
        refine z_iadd (pc2 := 42) rfl rfl ?_
        refine z_sipush (pc2 := 45) rfl rfl (by decide) ?_
        refine z_icmp_any (t := 55) (pc2 := 48) rfl rfl rfl ?_ ?_
        ·
          refine z_aload_n (pc2 := 56) rfl rfl rfl ?_
          refine z_bipush (pc2 := 58) rfl rfl (by decide) ?_
          refine z_callV (y2 := 142) (as := [_]) (rest := []) (pc2 := 61) rfl rfl rfl rfl t1 rfl ?_
          refine z_inl ?_
          refine z_lv (lv2 := [(0, _), (1, _)]) ⟨rfl, rfl, trivial⟩ ?_
          refine z_aload_n (pc2 := 1) rfl rfl rfl ?_
          refine z_iload_n (pc2 := 2) rfl rfl rfl ?_
          refine z_putI (pc2 := 5) rfl rfl rfl rfl rfl rfl t1 (by omega) True.intro ?_
          refine z_iload_n (pc2 := 6) rfl rfl rfl ?_
          refine z_iret rfl rfl ?_
          show zB _ _ _ _ _ _ [_] _ _
          refine z_iret rfl rfl ?_
          exact hK _ _ _ _ _ _ _ (zCP_q ⟨zTn_rf, (zQi_u zQi_rf (by unfold zIr; omega)), zQp_rf⟩ (zTm_rf _)) (by omega)
        ·
          refine z_aload_n (pc2 := 49) rfl rfl rfl ?_
          refine z_callV (y2 := 148) (as := []) (rest := []) (pc2 := 52) rfl rfl rfl rfl t1 rfl ?_
          refine z_inl ?_
          refine z_lv (lv2 := [(0, _)]) ⟨rfl, trivial⟩ ?_
          refine z_aload_n (pc2 := 1) rfl rfl rfl ?_
          refine z_getI (pc2 := 4) 0 rfl rfl rfl rfl rfl t1 ?_
          intro v10 e10 r10 k10
          clear k10
          clear e10
          refine z_sipush (pc2 := 7) rfl rfl (by decide) ?_
          refine z_icmp_lt (t := 14) (pc2 := 10) rfl rfl rfl (by omega) (by omega) (fun c11 => ?_) (fun c11 => ?_)
          ·
            refine z_iconst (pc2 := 15) rfl rfl ?_
            refine z_zret rfl rfl (by omega) ?_
            show zB _ _ _ _ _ _ [_] _ _
            refine z_if_eq (t := 62) (pc2 := 55) rfl rfl rfl (by omega) (fun c12 => ?_) (fun c12 => by exfalso; omega)
            refine z_aload_n (pc2 := 63) rfl rfl rfl ?_
            refine z_getP (pc2 := 66) rfl rfl rfl rfl t1 ?_
            intro p13 p13e p13k
            clear p13k; replace p13e : p13 = some b8 := by rw [p13e]; first | exact p7e | exact Eq.symm p7e | (simp [zU]; first | done | exact p7e | exact Eq.symm p7e | omega)
            subst p13e
            refine z_iload_n (pc2 := 67) rfl rfl rfl ?_
            refine z_iload_n (pc2 := 68) rfl rfl rfl ?_
            refine z_iload_n (pc2 := 69) rfl rfl rfl ?_
            refine z_callV (y2 := 79) (as := [_, _, _]) (rest := []) (pc2 := 72) rfl rfl rfl rfl tb8.1 rfl ?_
            refine z_inl ?_
            refine z_lv (lv2 := [(0, _), (1, _), (2, _), (3, _)]) ⟨rfl, rfl, rfl, rfl, trivial⟩ ?_
            refine z_aload_n (pc2 := 1) rfl rfl rfl ?_
            refine z_getP (pc2 := 4) rfl rfl rfl rfl tb8.1 ?_
            intro p14 p14e p14k
            replace p14k : p14 = some (b8 + 1) := p14k; clear p14e; subst p14k
            refine z_iload_n (pc2 := 5) rfl rfl rfl ?_
            refine z_aald (pc2 := 6) rfl rfl tb8.2.1 rfl (by omega) (by omega) (by omega) ?_
            intro p15 p15e p15k
            rcases p15k with rfl | ⟨q16, rfl, q169, n17, tq16, q16b⟩
            ·
              refine z_ifnonnull (t := 14) (pc2 := 9) rfl rfl rfl (fun a h => by cases h) (fun _ => ?_)
              refine z_bipush (pc2 := 11) rfl rfl (by decide) ?_
              refine z_goto (pc2 := 25) rfl rfl ?_
              refine z_iret rfl rfl ?_
              show zB _ _ _ _ _ _ [_] _ _
              refine z_istore (lv2 := [(5, _), (0, _), (1, _), (2, _), (3, _), (4, _)]) (pc2 := 74) rfl rfl rfl rfl ?_
              refine z_iload (pc2 := 76) rfl rfl rfl ?_
              refine z_if_ge (t := 86) (pc2 := 79) rfl rfl rfl (by omega) (fun c18 => by exfalso; omega) (fun c18 => ?_)
              refine z_aload_n (pc2 := 80) rfl rfl rfl ?_
              refine z_iload (pc2 := 82) rfl rfl rfl ?_
              refine z_callV (y2 := 143) (as := [_]) (rest := []) (pc2 := 85) rfl rfl rfl rfl t1 rfl ?_
              refine z_inl ?_
              refine z_lv (lv2 := [(0, _), (1, _)]) ⟨rfl, rfl, trivial⟩ ?_
              refine z_aload_n (pc2 := 1) rfl rfl rfl ?_
              refine z_dup (pc2 := 2) rfl rfl rfl ?_
              refine z_getI (pc2 := 5) 0 rfl rfl rfl rfl rfl t1 ?_
              intro v19 e19 r19 k19
              clear k19
              clear e19
              refine z_iconst (pc2 := 6) rfl rfl ?_
              refine z_iadd (pc2 := 7) rfl rfl ?_
              refine z_putI_any (pc2 := 10) rfl rfl rfl rfl rfl rfl t1 (fun _ _ => True.intro) (fun u20 u20r => ?_)
              refine z_aload_n (pc2 := 11) rfl rfl rfl ?_
              refine z_iload_n (pc2 := 12) rfl rfl rfl ?_
              refine z_putI (pc2 := 15) rfl rfl rfl rfl rfl rfl t1 (by omega) True.intro ?_
              refine z_iload_n (pc2 := 16) rfl rfl rfl ?_
              refine z_iret rfl rfl ?_
              show zB _ _ _ _ _ _ [_] _ _
              refine z_iret rfl rfl ?_
              exact hK _ _ _ _ _ _ _ (zCP_q ⟨zTn_rf, (zQi_u (zQi_u zQi_rf (by unfold zIr; omega)) (by unfold zIr; omega)), zQp_rf⟩ (zTm_rf _)) (by omega)
            ·
              replace tq16 : _ = ((1, 3, [n17]) : zT) := tq16
              refine zB_le tq16 trivial (fun q16l => ?_)
              refine z_ifnonnull (t := 14) (pc2 := 9) rfl rfl rfl (fun _ _ => ?_) (fun h => by cases h)
              refine z_aload_n (pc2 := 15) rfl rfl rfl ?_
              refine z_getP (pc2 := 18) rfl rfl rfl rfl tb8.1 ?_
              intro p21 p21e p21k
              replace p21k : p21 = some (b8 + 1) := p21k; clear p21e; subst p21k
              refine z_iload_n (pc2 := 19) rfl rfl rfl ?_
              refine z_aald (pc2 := 20) rfl rfl tb8.2.1 rfl (by omega) (by omega) (by omega) ?_
              intro p22 p22e p22k
              clear p22k; replace p22e : p22 = some q16 := by rw [p22e]; first | exact p15e | exact Eq.symm p15e | (simp [zU]; first | done | exact p15e | exact Eq.symm p15e | omega)
              subst p22e
              refine z_iload_n (pc2 := 21) rfl rfl rfl ?_
              refine z_iload_n (pc2 := 22) rfl rfl rfl ?_
              refine z_callV (y2 := 44) (as := [_, _]) (rest := []) (pc2 := 25) rfl rfl rfl rfl tq16 rfl ?_
              refine c_Fount_boxOf hn hC (by omega) (by omega) (by omega) tq16 (by omega) (fun w23 w23r w23v => ?_)
              show zB _ _ _ _ _ _ [_] _ _
              refine z_iret rfl rfl ?_
              show zB _ _ _ _ _ _ [_] _ _
              refine z_istore (lv2 := [(5, _), (0, _), (1, _), (2, _), (3, _), (4, _)]) (pc2 := 74) rfl rfl rfl rfl ?_
              refine z_iload (pc2 := 76) rfl rfl rfl ?_
              refine z_if_ge (t := 86) (pc2 := 79) rfl rfl rfl (by omega) (fun c24 => ?_) (fun c24 => ?_)
              ·
                refine z_aload_n (pc2 := 87) rfl rfl rfl ?_
                refine z_getP (pc2 := 90) rfl rfl rfl rfl t1 ?_
                intro p25 p25e p25k
                clear p25k; replace p25e : p25 = some b8 := by rw [p25e]; first | exact p7e | exact Eq.symm p7e | (simp [zU]; first | done | exact p7e | exact Eq.symm p7e | omega)
                subst p25e
                refine z_getP (pc2 := 93) rfl rfl rfl rfl tb8.1 ?_
                intro p26 p26e p26k
                replace p26k : p26 = some (b8 + 2) := p26k; clear p26e; subst p26k
                refine z_iload_n (pc2 := 94) rfl rfl rfl ?_
                refine z_dup2 (pc2 := 95) rfl rfl rfl rfl ?_
                refine z_iald (pc2 := 96) rfl rfl tb8.2.2.1 (by omega) (by omega) (by omega) ?_
                intro v27 e27 r27 k27
                clear k27
                clear e27
                refine z_iload (pc2 := 98) rfl rfl rfl ?_
                refine z_iadd (pc2 := 99) rfl rfl ?_
                refine z_iast_any (pc2 := 100) rfl rfl tb8.2.2.1 (by omega) (by omega) (by omega) (fun _ _ => True.intro) (fun u28 u28r => ?_)
                refine z_aload_n (pc2 := 101) rfl rfl rfl ?_
                refine z_getP (pc2 := 104) rfl rfl rfl rfl t1 ?_
                intro p29 p29e p29k
                clear p29k; replace p29e : p29 = some b8 := by rw [p29e]; first | exact p7e | exact Eq.symm p7e | (simp [zU]; first | done | exact p7e | exact Eq.symm p7e | omega)
                subst p29e
                refine z_getP (pc2 := 107) rfl rfl rfl rfl tb8.1 ?_
                intro p30 p30e p30k
                obtain ⟨x31, rfl, hx31⟩ := zFloorOf p30k
                have ix31 : x31 = 23 ∨ x31 = 30 ∨ x31 = 42 ∨ x31 = 49 := by omega
                have tx31 := zFl_t hC ix31
                refine z_getP (pc2 := 110) rfl rfl rfl rfl tx31.1 ?_
                intro p32 p32e p32k
                replace p32k : p32 = some (x31 + 1) := p32k; clear p32e; subst p32k
                refine z_iload (pc2 := 112) rfl rfl rfl ?_
                refine z_dup2 (pc2 := 113) rfl rfl rfl rfl ?_
                refine z_iald (pc2 := 114) rfl rfl tx31.2.1 (by omega) (by omega) (by omega) ?_
                intro v33 e33 r33 k33
                clear k33
                clear e33
                refine z_iload (pc2 := 116) rfl rfl rfl ?_
                refine z_iadd (pc2 := 117) rfl rfl ?_
                refine z_iast_any (pc2 := 118) rfl rfl tx31.2.1 (by omega) (by omega) (by omega) (fun _ _ => True.intro) (fun u34 u34r => ?_)
                refine z_aload_n (pc2 := 119) rfl rfl rfl ?_
                refine z_aload_n (pc2 := 120) rfl rfl rfl ?_
                refine z_getP (pc2 := 123) rfl rfl rfl rfl t1 ?_
                intro p35 p35e p35k
                clear p35k; replace p35e : p35 = some b8 := by rw [p35e]; first | exact p7e | exact Eq.symm p7e | (simp [zU]; first | done | exact p7e | exact Eq.symm p7e | omega)
                subst p35e
                refine z_getP (pc2 := 126) rfl rfl rfl rfl tb8.1 ?_
                intro p36 p36e p36k
                clear p36k; replace p36e : p36 = some x31 := by rw [p36e]; first | exact p30e | exact Eq.symm p30e | (simp [zU]; first | done | exact p30e | exact Eq.symm p30e | omega)
                subst p36e
                refine z_getP (pc2 := 129) rfl rfl rfl rfl tx31.1 ?_
                intro p37 p37e p37k
                replace p37k : p37 = some (x31 + 1) := p37k; clear p37e; subst p37k
                refine z_iload (pc2 := 131) rfl rfl rfl ?_
                refine z_iald (pc2 := 132) rfl rfl tx31.2.1 (by omega) (by omega) (by omega) ?_
                intro v38 e38 r38 k38
                clear k38
                clear e38
                refine z_callV (y2 := 145) (as := [_]) (rest := []) (pc2 := 135) rfl rfl rfl rfl t1 rfl ?_
                refine z_inl ?_
                refine z_lv (lv2 := [(0, _), (1, _)]) ⟨rfl, rfl, trivial⟩ ?_
                refine z_aload_n (pc2 := 1) rfl rfl rfl ?_
                refine z_getP (pc2 := 4) rfl rfl rfl rfl t1 ?_
                intro p39 p39e p39k
                clear p39k; replace p39e : p39 = some b8 := by rw [p39e]; first | exact p7e | exact Eq.symm p7e | (simp [zU]; first | done | exact p7e | exact Eq.symm p7e | omega)
                subst p39e
                refine z_iconst (pc2 := 5) rfl rfl ?_
                refine z_putZ (pc2 := 8) rfl rfl rfl rfl rfl rfl tb8.1 (by omega) True.intro ?_
                refine z_aload_n (pc2 := 9) rfl rfl rfl ?_
                refine z_iload_n (pc2 := 10) rfl rfl rfl ?_
                refine z_callV (y2 := 144) (as := [_]) (rest := []) (pc2 := 13) rfl rfl rfl rfl t1 rfl ?_
                refine z_inl ?_
                refine z_lv (lv2 := [(0, _), (1, _)]) ⟨rfl, rfl, trivial⟩ ?_
                refine z_aload_n (pc2 := 1) rfl rfl rfl ?_
                refine z_iconst (pc2 := 2) rfl rfl ?_
                refine z_putI (pc2 := 5) rfl rfl rfl rfl rfl rfl t1 (by omega) True.intro ?_
                refine z_iload_n (pc2 := 6) rfl rfl rfl ?_
                refine z_iret rfl rfl ?_
                show zB _ _ _ _ _ _ [_] _ _
                refine z_iret rfl rfl ?_
                show zB _ _ _ _ _ _ [_] _ _
                refine z_iret rfl rfl ?_
                exact hK _ _ _ _ _ _ _ (zCP_q ⟨zTn_rf, (zQi_u (zQi_u (zQi_u (zQi_u zQi_rf (by unfold zIr; omega)) (by unfold zIr; omega)) (by unfold zIr; omega)) (by unfold zIr; omega)), zQp_rf⟩ (zTm_rf _)) (by omega)
              ·
                refine z_aload_n (pc2 := 80) rfl rfl rfl ?_
                refine z_iload (pc2 := 82) rfl rfl rfl ?_
                refine z_callV (y2 := 143) (as := [_]) (rest := []) (pc2 := 85) rfl rfl rfl rfl t1 rfl ?_
                refine z_inl ?_
                refine z_lv (lv2 := [(0, _), (1, _)]) ⟨rfl, rfl, trivial⟩ ?_
                refine z_aload_n (pc2 := 1) rfl rfl rfl ?_
                refine z_dup (pc2 := 2) rfl rfl rfl ?_
                refine z_getI (pc2 := 5) 0 rfl rfl rfl rfl rfl t1 ?_
                intro v40 e40 r40 k40
                clear k40
                clear e40
                refine z_iconst (pc2 := 6) rfl rfl ?_
                refine z_iadd (pc2 := 7) rfl rfl ?_
                refine z_putI_any (pc2 := 10) rfl rfl rfl rfl rfl rfl t1 (fun _ _ => True.intro) (fun u41 u41r => ?_)
                refine z_aload_n (pc2 := 11) rfl rfl rfl ?_
                refine z_iload_n (pc2 := 12) rfl rfl rfl ?_
                refine z_putI (pc2 := 15) rfl rfl rfl rfl rfl rfl t1 (by omega) True.intro ?_
                refine z_iload_n (pc2 := 16) rfl rfl rfl ?_
                refine z_iret rfl rfl ?_
                show zB _ _ _ _ _ _ [_] _ _
                refine z_iret rfl rfl ?_
                exact hK _ _ _ _ _ _ _ (zCP_q ⟨zTn_rf, (zQi_u (zQi_u zQi_rf (by unfold zIr; omega)) (by unfold zIr; omega)), zQp_rf⟩ (zTm_rf _)) (by omega)
          ·
            refine z_iconst (pc2 := 11) rfl rfl ?_
            refine z_goto (pc2 := 15) rfl rfl ?_
            refine z_zret rfl rfl (by omega) ?_
            show zB _ _ _ _ _ _ [_] _ _
            refine z_if_eq (t := 62) (pc2 := 55) rfl rfl rfl (by omega) (fun c42 => by exfalso; omega) (fun c42 => ?_)
            refine z_aload_n (pc2 := 56) rfl rfl rfl ?_
            refine z_bipush (pc2 := 58) rfl rfl (by decide) ?_
            refine z_callV (y2 := 142) (as := [_]) (rest := []) (pc2 := 61) rfl rfl rfl rfl t1 rfl ?_
            refine z_inl ?_
            refine z_lv (lv2 := [(0, _), (1, _)]) ⟨rfl, rfl, trivial⟩ ?_
            refine z_aload_n (pc2 := 1) rfl rfl rfl ?_
            refine z_iload_n (pc2 := 2) rfl rfl rfl ?_
            refine z_putI (pc2 := 5) rfl rfl rfl rfl rfl rfl t1 (by omega) True.intro ?_
            refine z_iload_n (pc2 := 6) rfl rfl rfl ?_
            refine z_iret rfl rfl ?_
            show zB _ _ _ _ _ _ [_] _ _
            refine z_iret rfl rfl ?_
            exact hK _ _ _ _ _ _ _ (zCP_q ⟨zTn_rf, (zQi_u zQi_rf (by unfold zIr; omega)), zQp_rf⟩ (zTm_rf _)) (by omega)
      ·
        refine z_aload_n (pc2 := 27) rfl rfl rfl ?_
        refine z_iconst (pc2 := 28) rfl rfl ?_
        refine z_callV (y2 := 142) (as := [_]) (rest := []) (pc2 := 31) rfl rfl rfl rfl t1 rfl ?_
        refine z_inl ?_
        refine z_lv (lv2 := [(0, _), (1, _)]) ⟨rfl, rfl, trivial⟩ ?_
        refine z_aload_n (pc2 := 1) rfl rfl rfl ?_
        refine z_iload_n (pc2 := 2) rfl rfl rfl ?_
        refine z_putI (pc2 := 5) rfl rfl rfl rfl rfl rfl t1 (by omega) True.intro ?_
        refine z_iload_n (pc2 := 6) rfl rfl rfl ?_
        refine z_iret rfl rfl ?_
        show zB _ _ _ _ _ _ [_] _ _
        refine z_iret rfl rfl ?_
        exact hK _ _ _ _ _ _ _ (zCP_q ⟨zTn_rf, (zQi_u zQi_rf (by unfold zIr; omega)), zQp_rf⟩ (zTm_rf _)) (by omega)
set_option maxHeartbeats 8000000 in
theorem c_TypeRoom_sign {L : Nat} {xs : Nat → Int32} {n sl : Nat} {T : Nat → zT} {I : Nat → Nat → Int} {P : Nat → Nat → Option Nat} {G : Nat → Nat → Int} {K : List zV → zH → Prop} {a c d : Int} (hn : 90 ≤ n) (hC : ∀ a, 1 ≤ a → a ≤ 55 → T a = zFixC a) (ha : zR a) (hc : zR c) (hd : zR d) (hK : ∀ e n2 sl2 T2 I2 P2 G2, zCP n T T2 I I2 P P2 → (n ≤ n2 ∧ n2 ≤ n + 0 ∧ sl2 ≤ sl + 0) → K [.inl e] (n2, sl2, T2, I2, P2, G2)) : zX zMd L xs 116 [.inr (.inl (some 1)), .inl a, .inl c, .inl d] (n, sl, T, I, P, G) K := by
  have t1 : T 1 = (1, 11, [1]) := hC 1 (by decide) (by decide)
  refine z_inl ?_
  refine z_lv (lv2 := [(0, _), (1, _), (2, _), (3, _)]) ⟨rfl, rfl, rfl, rfl, trivial⟩ ?_
  refine z_iload_n (pc2 := 1) rfl rfl rfl ?_
  refine z_callS (y2 := 152) (as := [_]) (rest := []) (pc2 := 4) rfl rfl rfl rfl ?_
  refine z_inl ?_
  refine z_lv (lv2 := [(0, _)]) ⟨rfl, trivial⟩ ?_
  refine z_iload_n (pc2 := 1) rfl rfl rfl ?_
  refine z_iconst (pc2 := 2) rfl rfl ?_
  refine z_bipush (pc2 := 4) rfl rfl (by decide) ?_
  refine z_callS (y2 := 155) (as := [_, _, _]) (rest := []) (pc2 := 7) rfl rfl rfl rfl ?_
  refine c_TypeRoom_isOutside (by omega) (by omega) (by omega) (fun e1 e1a e1b e1c => ?_)
  show zB _ _ _ _ _ _ [_] _ _
  refine z_zret rfl rfl (by omega) ?_
  show zB _ _ _ _ _ _ [_] _ _
  refine z_if_ne (t := 17) (pc2 := 7) rfl rfl rfl (by omega) (fun c2 => ?_) (fun c2 => ?_)
  ·
    refine z_aload_n (pc2 := 18) rfl rfl rfl ?_
    refine z_iconst (pc2 := 19) rfl rfl ?_
    refine z_callV (y2 := 142) (as := [_]) (rest := []) (pc2 := 22) rfl rfl rfl rfl t1 rfl ?_
    refine z_inl ?_
    refine z_lv (lv2 := [(0, _), (1, _)]) ⟨rfl, rfl, trivial⟩ ?_
    refine z_aload_n (pc2 := 1) rfl rfl rfl ?_
    refine z_iload_n (pc2 := 2) rfl rfl rfl ?_
    refine z_putI (pc2 := 5) rfl rfl rfl rfl rfl rfl t1 (by omega) True.intro ?_
    refine z_iload_n (pc2 := 6) rfl rfl rfl ?_
    refine z_iret rfl rfl ?_
    show zB _ _ _ _ _ _ [_] _ _
    refine z_iret rfl rfl ?_
    exact hK _ _ _ _ _ _ _ (zCP_q ⟨zTn_rf, (zQi_u zQi_rf (by unfold zIr; omega)), zQp_rf⟩ (zTm_rf _)) (by omega)
  ·
    refine z_iload_n (pc2 := 8) rfl rfl rfl ?_
    refine z_iconst (pc2 := 9) rfl rfl ?_
    refine z_bipush (pc2 := 11) rfl rfl (by decide) ?_
    refine z_callS (y2 := 155) (as := [_, _, _]) (rest := []) (pc2 := 14) rfl rfl rfl rfl ?_
    refine c_TypeRoom_isOutside (by omega) (by omega) (by omega) (fun e3 e3a e3b e3c => ?_)
    show zB _ _ _ _ _ _ [_] _ _
    refine z_if_eq (t := 23) (pc2 := 17) rfl rfl rfl (by omega) (fun c4 => ?_) (fun c4 => ?_)
    ·
      refine z_aload_n (pc2 := 24) rfl rfl rfl ?_
      refine z_callV (y2 := 148) (as := []) (rest := []) (pc2 := 27) rfl rfl rfl rfl t1 rfl ?_
      refine z_inl ?_
      refine z_lv (lv2 := [(0, _)]) ⟨rfl, trivial⟩ ?_
      refine z_aload_n (pc2 := 1) rfl rfl rfl ?_
      refine z_getI (pc2 := 4) 0 rfl rfl rfl rfl rfl t1 ?_
      intro v5 e5 r5 k5
      clear k5
      clear e5
      refine z_sipush (pc2 := 7) rfl rfl (by decide) ?_
      refine z_icmp_lt (t := 14) (pc2 := 10) rfl rfl rfl (by omega) (by omega) (fun c6 => ?_) (fun c6 => ?_)
      ·
        refine z_iconst (pc2 := 15) rfl rfl ?_
        refine z_zret rfl rfl (by omega) ?_
        show zB _ _ _ _ _ _ [_] _ _
        refine z_if_eq (t := 37) (pc2 := 30) rfl rfl rfl (by omega) (fun c7 => ?_) (fun c7 => by exfalso; omega)
        refine z_aload_n (pc2 := 38) rfl rfl rfl ?_
        refine z_getP (pc2 := 41) rfl rfl rfl rfl t1 ?_
        intro p8 p8e p8k
        obtain ⟨b9, rfl, hb9⟩ := zHere p8k
        have tb9 := zRm_t hC hb9
        refine z_getP (pc2 := 44) rfl rfl rfl rfl tb9.1 ?_
        intro p10 p10e p10k
        replace p10k : p10 = some (b9 + 3) := p10k; clear p10e; subst p10k
        refine z_iload_n (pc2 := 45) rfl rfl rfl ?_
        refine z_aald (pc2 := 46) rfl rfl tb9.2.2.2.1 rfl (by omega) (by omega) (by omega) ?_
        intro p11 p11e p11k
        rcases p11k with rfl | ⟨q12, rfl, q129, m13, tq12, q12b⟩
        ·
          refine z_astore (lv2 := [(4, _), (0, _), (1, _), (2, _), (3, _)]) (pc2 := 48) rfl rfl rfl rfl ?_
          refine z_aload (pc2 := 50) rfl rfl rfl ?_
          refine z_ifnonnull (t := 60) (pc2 := 53) rfl rfl rfl (fun a h => by cases h) (fun _ => ?_)
          refine z_aload_n (pc2 := 54) rfl rfl rfl ?_
          refine z_bipush (pc2 := 56) rfl rfl (by decide) ?_
          refine z_callV (y2 := 143) (as := [_]) (rest := []) (pc2 := 59) rfl rfl rfl rfl t1 rfl ?_
          refine z_inl ?_
          refine z_lv (lv2 := [(0, _), (1, _)]) ⟨rfl, rfl, trivial⟩ ?_
          refine z_aload_n (pc2 := 1) rfl rfl rfl ?_
          refine z_dup (pc2 := 2) rfl rfl rfl ?_
          refine z_getI (pc2 := 5) 0 rfl rfl rfl rfl rfl t1 ?_
          intro v14 e14 r14 k14
          clear k14
          clear e14
          refine z_iconst (pc2 := 6) rfl rfl ?_
          refine z_iadd (pc2 := 7) rfl rfl ?_
          refine z_putI_any (pc2 := 10) rfl rfl rfl rfl rfl rfl t1 (fun _ _ => True.intro) (fun u15 u15r => ?_)
          refine z_aload_n (pc2 := 11) rfl rfl rfl ?_
          refine z_iload_n (pc2 := 12) rfl rfl rfl ?_
          refine z_putI (pc2 := 15) rfl rfl rfl rfl rfl rfl t1 (by omega) True.intro ?_
          refine z_iload_n (pc2 := 16) rfl rfl rfl ?_
          refine z_iret rfl rfl ?_
          show zB _ _ _ _ _ _ [_] _ _
          refine z_iret rfl rfl ?_
          exact hK _ _ _ _ _ _ _ (zCP_q ⟨zTn_rf, (zQi_u (zQi_u zQi_rf (by unfold zIr; omega)) (by unfold zIr; omega)), zQp_rf⟩ (zTm_rf _)) (by omega)
        ·
          replace tq12 : _ = ((2, 0, [(m13), 25]) : zT) := tq12
          refine zB_le tq12 trivial (fun q12l => ?_)
          refine z_astore (lv2 := [(4, _), (0, _), (1, _), (2, _), (3, _)]) (pc2 := 48) rfl rfl rfl rfl ?_
          refine z_aload (pc2 := 50) rfl rfl rfl ?_
          refine z_ifnonnull (t := 60) (pc2 := 53) rfl rfl rfl (fun _ _ => ?_) (fun h => by cases h)
          refine z_iload_n (pc2 := 61) rfl rfl rfl ?_
          refine z_iconst (pc2 := 62) rfl rfl ?_
          refine z_aload (pc2 := 64) rfl rfl rfl ?_
          refine z_alen (pc2 := 65) rfl rfl tq12 rfl (by omega) ?_
          refine z_iconst (pc2 := 66) rfl rfl ?_
          refine z_isub (pc2 := 67) rfl rfl ?_
          refine z_callS (y2 := 155) (as := [_, _, _]) (rest := []) (pc2 := 70) rfl rfl rfl rfl ?_
          refine c_TypeRoom_isOutside (by omega) (by omega) (by omega) (fun e16 e16a e16b e16c => ?_)
          show zB _ _ _ _ _ _ [_] _ _
          refine z_if_eq (t := 80) (pc2 := 73) rfl rfl rfl (by omega) (fun c17 => ?_) (fun c17 => ?_)
          ·
            refine z_aload (pc2 := 82) rfl rfl rfl ?_
            refine z_iload_n (pc2 := 83) rfl rfl rfl ?_
            refine z_iload_n (pc2 := 84) rfl rfl rfl ?_
            refine z_iast (pc2 := 85) rfl rfl tq12 (by omega) (by omega) (by omega) (by omega) (by show (0 : Int) ≤ _ ∧ _ ≤ 127; omega) ?_
            refine z_aload_n (pc2 := 86) rfl rfl rfl ?_
            refine z_iconst (pc2 := 87) rfl rfl ?_
            refine z_callV (y2 := 144) (as := [_]) (rest := []) (pc2 := 90) rfl rfl rfl rfl t1 rfl ?_
            refine z_inl ?_
            refine z_lv (lv2 := [(0, _), (1, _)]) ⟨rfl, rfl, trivial⟩ ?_
            refine z_aload_n (pc2 := 1) rfl rfl rfl ?_
            refine z_iconst (pc2 := 2) rfl rfl ?_
            refine z_putI (pc2 := 5) rfl rfl rfl rfl rfl rfl t1 (by omega) True.intro ?_
            refine z_iload_n (pc2 := 6) rfl rfl rfl ?_
            refine z_iret rfl rfl ?_
            show zB _ _ _ _ _ _ [_] _ _
            refine z_iret rfl rfl ?_
            exact hK _ _ _ _ _ _ _ (zCP_q ⟨zTn_rf, (zQi_u (zQi_u zQi_rf (by unfold zIr; omega)) (by unfold zIr; omega)), zQp_rf⟩ (zTm_rf _)) (by omega)
          ·
            refine z_aload_n (pc2 := 74) rfl rfl rfl ?_
            refine z_bipush (pc2 := 76) rfl rfl (by decide) ?_
            refine z_callV (y2 := 143) (as := [_]) (rest := []) (pc2 := 79) rfl rfl rfl rfl t1 rfl ?_
            refine z_inl ?_
            refine z_lv (lv2 := [(0, _), (1, _)]) ⟨rfl, rfl, trivial⟩ ?_
            refine z_aload_n (pc2 := 1) rfl rfl rfl ?_
            refine z_dup (pc2 := 2) rfl rfl rfl ?_
            refine z_getI (pc2 := 5) 0 rfl rfl rfl rfl rfl t1 ?_
            intro v18 e18 r18 k18
            clear k18
            clear e18
            refine z_iconst (pc2 := 6) rfl rfl ?_
            refine z_iadd (pc2 := 7) rfl rfl ?_
            refine z_putI_any (pc2 := 10) rfl rfl rfl rfl rfl rfl t1 (fun _ _ => True.intro) (fun u19 u19r => ?_)
            refine z_aload_n (pc2 := 11) rfl rfl rfl ?_
            refine z_iload_n (pc2 := 12) rfl rfl rfl ?_
            refine z_putI (pc2 := 15) rfl rfl rfl rfl rfl rfl t1 (by omega) True.intro ?_
            refine z_iload_n (pc2 := 16) rfl rfl rfl ?_
            refine z_iret rfl rfl ?_
            show zB _ _ _ _ _ _ [_] _ _
            refine z_iret rfl rfl ?_
            exact hK _ _ _ _ _ _ _ (zCP_q ⟨zTn_rf, (zQi_u (zQi_u zQi_rf (by unfold zIr; omega)) (by unfold zIr; omega)), zQp_rf⟩ (zTm_rf _)) (by omega)
      ·
        refine z_iconst (pc2 := 11) rfl rfl ?_
        refine z_goto (pc2 := 15) rfl rfl ?_
        refine z_zret rfl rfl (by omega) ?_
        show zB _ _ _ _ _ _ [_] _ _
        refine z_if_eq (t := 37) (pc2 := 30) rfl rfl rfl (by omega) (fun c20 => by exfalso; omega) (fun c20 => ?_)
        refine z_aload_n (pc2 := 31) rfl rfl rfl ?_
        refine z_bipush (pc2 := 33) rfl rfl (by decide) ?_
        refine z_callV (y2 := 142) (as := [_]) (rest := []) (pc2 := 36) rfl rfl rfl rfl t1 rfl ?_
        refine z_inl ?_
        refine z_lv (lv2 := [(0, _), (1, _)]) ⟨rfl, rfl, trivial⟩ ?_
        refine z_aload_n (pc2 := 1) rfl rfl rfl ?_
        refine z_iload_n (pc2 := 2) rfl rfl rfl ?_
        refine z_putI (pc2 := 5) rfl rfl rfl rfl rfl rfl t1 (by omega) True.intro ?_
        refine z_iload_n (pc2 := 6) rfl rfl rfl ?_
        refine z_iret rfl rfl ?_
        show zB _ _ _ _ _ _ [_] _ _
        refine z_iret rfl rfl ?_
        exact hK _ _ _ _ _ _ _ (zCP_q ⟨zTn_rf, (zQi_u zQi_rf (by unfold zIr; omega)), zQp_rf⟩ (zTm_rf _)) (by omega)
    ·
      refine z_aload_n (pc2 := 18) rfl rfl rfl ?_
      refine z_iconst (pc2 := 19) rfl rfl ?_
      refine z_callV (y2 := 142) (as := [_]) (rest := []) (pc2 := 22) rfl rfl rfl rfl t1 rfl ?_
      refine z_inl ?_
      refine z_lv (lv2 := [(0, _), (1, _)]) ⟨rfl, rfl, trivial⟩ ?_
      refine z_aload_n (pc2 := 1) rfl rfl rfl ?_
      refine z_iload_n (pc2 := 2) rfl rfl rfl ?_
      refine z_putI (pc2 := 5) rfl rfl rfl rfl rfl rfl t1 (by omega) True.intro ?_
      refine z_iload_n (pc2 := 6) rfl rfl rfl ?_
      refine z_iret rfl rfl ?_
      show zB _ _ _ _ _ _ [_] _ _
      refine z_iret rfl rfl ?_
      exact hK _ _ _ _ _ _ _ (zCP_q ⟨zTn_rf, (zQi_u zQi_rf (by unfold zIr; omega)), zQp_rf⟩ (zTm_rf _)) (by omega)
set_option maxHeartbeats 8000000 in
theorem c_TypeRoom_status {L : Nat} {xs : Nat → Int32} {n sl : Nat} {T : Nat → zT} {I : Nat → Nat → Int} {P : Nat → Nat → Option Nat} {G : Nat → Nat → Int} {K : List zV → zH → Prop} (hn : 90 ≤ n) (hC : ∀ a, 1 ≤ a → a ≤ 55 → T a = zFixC a) (hK : ∀ e n2 sl2 T2 I2 P2 G2, zCP n T T2 I I2 P P2 → (n ≤ n2 ∧ n2 ≤ n + 0 ∧ sl2 ≤ sl + 0) → K [.inl e] (n2, sl2, T2, I2, P2, G2)) : zX zMd L xs 138 [.inr (.inl (some 1))] (n, sl, T, I, P, G) K := by
  have t1 : T 1 = (1, 11, [1]) := hC 1 (by decide) (by decide)
  refine z_inl ?_
  refine z_lv (lv2 := [(0, _)]) ⟨rfl, trivial⟩ ?_
  refine z_aload_n (pc2 := 1) rfl rfl rfl ?_
  refine z_getI (pc2 := 4) 0 rfl rfl rfl rfl rfl t1 ?_
  intro v1 e1 r1 k1
  clear k1
  clear e1
  refine z_iret rfl rfl ?_
  exact hK _ _ _ _ _ _ _ (zCP_q ⟨zTn_rf, zQi_rf, zQp_rf⟩ (zTm_rf _)) (by omega)
set_option maxHeartbeats 8000000 in
theorem c_TypeRoom_left {L : Nat} {xs : Nat → Int32} {n sl : Nat} {T : Nat → zT} {I : Nat → Nat → Int} {P : Nat → Nat → Option Nat} {G : Nat → Nat → Int} {K : List zV → zH → Prop} {a c d : Int} (hn : 90 ≤ n) (hC : ∀ a, 1 ≤ a → a ≤ 55 → T a = zFixC a) (ha : zR a) (hc : zR c) (hd : zR d) (hK : ∀ e n2 sl2 T2 I2 P2 G2, zCP n T T2 I I2 P P2 → (n ≤ n2 ∧ n2 ≤ n + 0 ∧ sl2 ≤ sl + 0) → K [.inl e] (n2, sl2, T2, I2, P2, G2)) : zX zMd L xs 139 [.inr (.inl (some 1)), .inl a, .inl c, .inl d] (n, sl, T, I, P, G) K := by
  have t1 : T 1 = (1, 11, [1]) := hC 1 (by decide) (by decide)
  refine z_inl ?_
  refine z_lv (lv2 := [(0, _), (1, _), (2, _), (3, _)]) ⟨rfl, rfl, rfl, rfl, trivial⟩ ?_
  refine z_iload_n (pc2 := 1) rfl rfl rfl ?_
  refine z_callS (y2 := 151) (as := [_]) (rest := []) (pc2 := 4) rfl rfl rfl rfl ?_
  refine z_inl ?_
  refine z_lv (lv2 := [(0, _)]) ⟨rfl, trivial⟩ ?_
  refine z_iload_n (pc2 := 1) rfl rfl rfl ?_
  refine z_iconst (pc2 := 2) rfl rfl ?_
  refine z_iconst (pc2 := 3) rfl rfl ?_
  refine z_callS (y2 := 155) (as := [_, _, _]) (rest := []) (pc2 := 6) rfl rfl rfl rfl ?_
  refine c_TypeRoom_isOutside (by omega) (by omega) (by omega) (fun e1 e1a e1b e1c => ?_)
  show zB _ _ _ _ _ _ [_] _ _
  refine z_zret rfl rfl (by omega) ?_
  show zB _ _ _ _ _ _ [_] _ _
  refine z_if_ne (t := 14) (pc2 := 7) rfl rfl rfl (by omega) (fun c2 => ?_) (fun c2 => ?_)
  ·
    refine z_iconst (pc2 := 15) rfl rfl ?_
    refine z_iret rfl rfl ?_
    exact hK _ _ _ _ _ _ _ (zCP_q ⟨zTn_rf, zQi_rf, zQp_rf⟩ (zTm_rf _)) (by omega)
  ·
    refine z_iload_n (pc2 := 8) rfl rfl rfl ?_
    refine z_callS (y2 := 154) (as := [_]) (rest := []) (pc2 := 11) rfl rfl rfl rfl ?_
    refine z_inl ?_
    refine z_lv (lv2 := [(0, _)]) ⟨rfl, trivial⟩ ?_
    refine z_iload_n (pc2 := 1) rfl rfl rfl ?_
    refine z_iconst (pc2 := 2) rfl rfl ?_
    refine z_iconst (pc2 := 3) rfl rfl ?_
    refine z_callS (y2 := 155) (as := [_, _, _]) (rest := []) (pc2 := 6) rfl rfl rfl rfl ?_
    refine c_TypeRoom_isOutside (by omega) (by omega) (by omega) (fun e3 e3a e3b e3c => ?_)
    show zB _ _ _ _ _ _ [_] _ _
    refine z_zret rfl rfl (by omega) ?_
    show zB _ _ _ _ _ _ [_] _ _
    refine z_if_eq (t := 16) (pc2 := 14) rfl rfl rfl (by omega) (fun c4 => ?_) (fun c4 => ?_)
    ·
      refine z_aload_n (pc2 := 17) rfl rfl rfl ?_
      refine z_getP (pc2 := 20) rfl rfl rfl rfl t1 ?_
      intro p5 p5e p5k
      obtain ⟨b6, rfl, hb6⟩ := zHere p5k
      have tb6 := zRm_t hC hb6
      refine z_iload_n (pc2 := 21) rfl rfl rfl ?_
      refine z_iload_n (pc2 := 22) rfl rfl rfl ?_
      refine z_iload_n (pc2 := 23) rfl rfl rfl ?_
      refine z_callV (y2 := 79) (as := [_, _, _]) (rest := []) (pc2 := 26) rfl rfl rfl rfl tb6.1 rfl ?_
      refine z_inl ?_
      refine z_lv (lv2 := [(0, _), (1, _), (2, _), (3, _)]) ⟨rfl, rfl, rfl, rfl, trivial⟩ ?_
      refine z_aload_n (pc2 := 1) rfl rfl rfl ?_
      refine z_getP (pc2 := 4) rfl rfl rfl rfl tb6.1 ?_
      intro p7 p7e p7k
      replace p7k : p7 = some (b6 + 1) := p7k; clear p7e; subst p7k
      refine z_iload_n (pc2 := 5) rfl rfl rfl ?_
      refine z_aald (pc2 := 6) rfl rfl tb6.2.1 rfl (by omega) (by omega) (by omega) ?_
      intro p8 p8e p8k
      rcases p8k with rfl | ⟨q9, rfl, q99, n10, tq9, q9b⟩
      ·
        refine z_ifnonnull (t := 14) (pc2 := 9) rfl rfl rfl (fun a h => by cases h) (fun _ => ?_)
        refine z_bipush (pc2 := 11) rfl rfl (by decide) ?_
        refine z_goto (pc2 := 25) rfl rfl ?_
        refine z_iret rfl rfl ?_
        show zB _ _ _ _ _ _ [_] _ _
        refine z_istore (lv2 := [(4, _), (0, _), (1, _), (2, _), (3, _)]) (pc2 := 28) rfl rfl rfl rfl ?_
        refine z_iload (pc2 := 30) rfl rfl rfl ?_
        refine z_if_ge (t := 38) (pc2 := 33) rfl rfl rfl (by omega) (fun c11 => by exfalso; omega) (fun c11 => ?_)
        refine z_bipush (pc2 := 35) rfl rfl (by decide) ?_
        refine z_goto (pc2 := 51) rfl rfl ?_
        refine z_iret rfl rfl ?_
        exact hK _ _ _ _ _ _ _ (zCP_q ⟨zTn_rf, zQi_rf, zQp_rf⟩ (zTm_rf _)) (by omega)
      ·
        replace tq9 : _ = ((1, 3, [n10]) : zT) := tq9
        refine zB_le tq9 trivial (fun q9l => ?_)
        refine z_ifnonnull (t := 14) (pc2 := 9) rfl rfl rfl (fun _ _ => ?_) (fun h => by cases h)
        refine z_aload_n (pc2 := 15) rfl rfl rfl ?_
        refine z_getP (pc2 := 18) rfl rfl rfl rfl tb6.1 ?_
        intro p12 p12e p12k
        replace p12k : p12 = some (b6 + 1) := p12k; clear p12e; subst p12k
        refine z_iload_n (pc2 := 19) rfl rfl rfl ?_
        refine z_aald (pc2 := 20) rfl rfl tb6.2.1 rfl (by omega) (by omega) (by omega) ?_
        intro p13 p13e p13k
        clear p13k; replace p13e : p13 = some q9 := by rw [p13e]; first | exact p8e | exact Eq.symm p8e | (simp [zU]; first | done | exact p8e | exact Eq.symm p8e | omega)
        subst p13e
        refine z_iload_n (pc2 := 21) rfl rfl rfl ?_
        refine z_iload_n (pc2 := 22) rfl rfl rfl ?_
        refine z_callV (y2 := 44) (as := [_, _]) (rest := []) (pc2 := 25) rfl rfl rfl rfl tq9 rfl ?_
        refine c_Fount_boxOf hn hC (by omega) (by omega) (by omega) tq9 (by omega) (fun w14 w14r w14v => ?_)
        show zB _ _ _ _ _ _ [_] _ _
        refine z_iret rfl rfl ?_
        show zB _ _ _ _ _ _ [_] _ _
        refine z_istore (lv2 := [(4, _), (0, _), (1, _), (2, _), (3, _)]) (pc2 := 28) rfl rfl rfl rfl ?_
        refine z_iload (pc2 := 30) rfl rfl rfl ?_
        refine z_if_ge (t := 38) (pc2 := 33) rfl rfl rfl (by omega) (fun c15 => ?_) (fun c15 => ?_)
        ·
          refine z_aload_n (pc2 := 39) rfl rfl rfl ?_
          refine z_getP (pc2 := 42) rfl rfl rfl rfl t1 ?_
          intro p16 p16e p16k
          clear p16k; replace p16e : p16 = some b6 := by rw [p16e]; first | exact p5e | exact Eq.symm p5e | (simp [zU]; first | done | exact p5e | exact Eq.symm p5e | omega)
          subst p16e
          refine z_getP (pc2 := 45) rfl rfl rfl rfl tb6.1 ?_
          intro p17 p17e p17k
          obtain ⟨x18, rfl, hx18⟩ := zFloorOf p17k
          have ix18 : x18 = 23 ∨ x18 = 30 ∨ x18 = 42 ∨ x18 = 49 := by omega
          have tx18 := zFl_t hC ix18
          refine z_getP (pc2 := 48) rfl rfl rfl rfl tx18.1 ?_
          intro p19 p19e p19k
          replace p19k : p19 = some (x18 + 1) := p19k; clear p19e; subst p19k
          refine z_iload (pc2 := 50) rfl rfl rfl ?_
          refine z_iald (pc2 := 51) rfl rfl tx18.2.1 (by omega) (by omega) (by omega) ?_
          intro v20 e20 r20 k20
          clear k20
          clear e20
          refine z_iret rfl rfl ?_
          exact hK _ _ _ _ _ _ _ (zCP_q ⟨zTn_rf, zQi_rf, zQp_rf⟩ (zTm_rf _)) (by omega)
        ·
          refine z_bipush (pc2 := 35) rfl rfl (by decide) ?_
          refine z_goto (pc2 := 51) rfl rfl ?_
          refine z_iret rfl rfl ?_
          exact hK _ _ _ _ _ _ _ (zCP_q ⟨zTn_rf, zQi_rf, zQp_rf⟩ (zTm_rf _)) (by omega)
    ·
      refine z_iconst (pc2 := 15) rfl rfl ?_
      refine z_iret rfl rfl ?_
      exact hK _ _ _ _ _ _ _ (zCP_q ⟨zTn_rf, zQi_rf, zQp_rf⟩ (zTm_rf _)) (by omega)
set_option maxHeartbeats 8000000 in
theorem c_TypeRoom_trace {L : Nat} {xs : Nat → Int32} {n sl : Nat} {T : Nat → zT} {I : Nat → Nat → Int} {P : Nat → Nat → Option Nat} {G : Nat → Nat → Int} {K : List zV → zH → Prop} {a : Int} (hn : 90 ≤ n) (hC : ∀ a, 1 ≤ a → a ≤ 55 → T a = zFixC a) (ha : zR a) (hK : ∀ e n2 sl2 T2 I2 P2 G2, zCP n T T2 I I2 P P2 → (n ≤ n2 ∧ n2 ≤ n + 0 ∧ sl2 ≤ sl + 0) → K [.inl e] (n2, sl2, T2, I2, P2, G2)) : zX zMd L xs 140 [.inr (.inl (some 1)), .inl a] (n, sl, T, I, P, G) K := by
  have t1 : T 1 = (1, 11, [1]) := hC 1 (by decide) (by decide)
  have t3 : T 3 = (1, 10, [1]) := hC 3 (by decide) (by decide)
  have t4 : T 4 = (2, 0, [60, 0]) := hC 4 (by decide) (by decide)
  refine z_inl ?_
  refine z_lv (lv2 := [(0, _), (1, _)]) ⟨rfl, rfl, trivial⟩ ?_
  refine z_aload_n (pc2 := 1) rfl rfl rfl ?_
  refine z_getP (pc2 := 4) rfl rfl rfl rfl t1 ?_
  intro p1 p1e p1k
  replace p1k : p1 = some 3 := p1k; clear p1e; subst p1k
  refine z_iload_n (pc2 := 5) rfl rfl rfl ?_
  refine z_callV (y2 := 104) (as := [_]) (rest := []) (pc2 := 8) rfl rfl rfl rfl t3 rfl ?_
  refine z_inl ?_
  refine z_lv (lv2 := [(0, _), (1, _)]) ⟨rfl, rfl, trivial⟩ ?_
  refine z_iload_n (pc2 := 1) rfl rfl rfl ?_
  refine z_iconst (pc2 := 2) rfl rfl ?_
  refine z_aload_n (pc2 := 3) rfl rfl rfl ?_
  refine z_getI (pc2 := 6) 0 rfl rfl rfl rfl rfl t3 ?_
  intro v2 e2 r2 k2
  replace k2 : (0 : Int) ≤ v2 ∧ v2 ≤ 1000000 := k2
  clear e2
  refine z_bipush (pc2 := 8) rfl rfl (by decide) ?_
  refine z_min (pc2 := 11) rfl rfl rfl rfl (by omega) (by omega) (fun v3 v3a v3b => ?_)
  refine z_iconst (pc2 := 12) rfl rfl ?_
  refine z_isub (pc2 := 13) rfl rfl ?_
  refine z_callS (y2 := 155) (as := [_, _, _]) (rest := []) (pc2 := 16) rfl rfl rfl rfl ?_
  refine c_TypeRoom_isOutside (by omega) (by omega) (by omega) (fun e4 e4a e4b e4c => ?_)
  show zB _ _ _ _ _ _ [_] _ _
  refine z_if_eq (t := 24) (pc2 := 19) rfl rfl rfl (by omega) (fun c5 => ?_) (fun c5 => ?_)
  ·
    refine z_aload_n (pc2 := 25) rfl rfl rfl ?_
    refine z_getP (pc2 := 28) rfl rfl rfl rfl t3 ?_
    intro p6 p6e p6k
    replace p6k : p6 = some 4 := p6k; clear p6e; subst p6k
    refine z_iload_n (pc2 := 29) rfl rfl rfl ?_
    refine z_iald (pc2 := 30) rfl rfl t4 (by omega) (by omega) (by omega) ?_
    intro v7 e7 r7 k7
    clear k7
    clear e7
    refine z_iret rfl rfl ?_
    show zB _ _ _ _ _ _ [_] _ _
    refine z_iret rfl rfl ?_
    exact hK _ _ _ _ _ _ _ (zCP_q ⟨zTn_rf, zQi_rf, zQp_rf⟩ (zTm_rf _)) (by omega)
  ·
    refine z_bipush (pc2 := 21) rfl rfl (by decide) ?_
    refine z_goto (pc2 := 30) rfl rfl ?_
    refine z_iret rfl rfl ?_
    show zB _ _ _ _ _ _ [_] _ _
    refine z_iret rfl rfl ?_
    exact hK _ _ _ _ _ _ _ (zCP_q ⟨zTn_rf, zQi_rf, zQp_rf⟩ (zTm_rf _)) (by omega)
set_option maxHeartbeats 8000000 in
theorem c_TypeRoom_kernRow {L : Nat} {xs : Nat → Int32} {n sl : Nat} {T : Nat → zT} {I : Nat → Nat → Int} {P : Nat → Nat → Option Nat} {G : Nat → Nat → Int} {K : List zV → zH → Prop} {a c d : Int} (hn : 90 ≤ n) (hC : ∀ a, 1 ≤ a → a ≤ 55 → T a = zFixC a) (ha : zR a) (hc : zR c) (hd : zR d) (hK : ∀ e n2 sl2 T2 I2 P2 G2, zCP n T T2 I I2 P P2 → (n ≤ n2 ∧ n2 ≤ n + 1 ∧ sl2 ≤ sl + 24) → K [.inl e] (n2, sl2, T2, I2, P2, G2)) : zX zMd L xs 109 [.inr (.inl (some 1)), .inl a, .inl c, .inl d] (n, sl, T, I, P, G) K := by
  have t1 : T 1 = (1, 11, [1]) := hC 1 (by decide) (by decide)
  refine z_inl ?_
  refine z_lv (lv2 := [(0, _), (1, _), (2, _), (3, _)]) ⟨rfl, rfl, rfl, rfl, trivial⟩ ?_
  refine z_aload_n (pc2 := 1) rfl rfl rfl ?_
  refine z_iload_n (pc2 := 2) rfl rfl rfl ?_
  refine z_iload_n (pc2 := 3) rfl rfl rfl ?_
  refine z_bipush (pc2 := 5) rfl rfl (by decide) ?_
  refine z_icmp_le (t := 12) (pc2 := 8) rfl rfl rfl (by omega) (by omega) (fun c1 => ?_) (fun c1 => ?_)
  ·
    refine z_iconst (pc2 := 13) rfl rfl ?_
    refine z_callV (y2 := 146) (as := [_, _]) (rest := []) (pc2 := 16) rfl rfl rfl rfl t1 rfl ?_
    refine c_TypeRoom_whyNotChange hn hC (by omega) (by omega) (fun w2 w2r w2z => ?_)
    show zB _ _ _ _ _ _ [_] _ _
    refine z_istore (lv2 := [(4, _), (0, _), (1, _), (2, _), (3, _)]) (pc2 := 18) rfl rfl rfl rfl ?_
    refine z_iload (pc2 := 20) rfl rfl rfl ?_
    refine z_if_eq (t := 30) (pc2 := 23) rfl rfl rfl (by omega) (fun c3 => ?_) (fun c3 => ?_)
    ·
      refine z_aload_n (pc2 := 31) rfl rfl rfl ?_
      refine z_getP (pc2 := 34) rfl rfl rfl rfl t1 ?_
      intro p4 p4e p4k
      obtain ⟨b5, rfl, hb5⟩ := zHere p4k
      have tb5 := zRm_t hC hb5
      refine z_getP (pc2 := 37) rfl rfl rfl rfl tb5.1 ?_
      intro p6 p6e p6k
      replace p6k : p6 = some (b5 + 1) := p6k; clear p6e; subst p6k
      refine z_iload_n (pc2 := 38) rfl rfl rfl ?_
      refine z_aald (pc2 := 39) rfl rfl tb5.2.1 rfl (by omega) (by omega) (by omega) ?_
      intro p7 p7e p7k
      rcases p7k with rfl | ⟨q8, rfl, q89, n9, tq8, q8b⟩
      ·
        refine z_astore (lv2 := [(5, _), (4, _), (0, _), (1, _), (2, _), (3, _)]) (pc2 := 41) rfl rfl rfl rfl ?_
        refine z_aload (pc2 := 43) rfl rfl rfl ?_
        refine z_ifnonnull (t := 53) (pc2 := 46) rfl rfl rfl (fun a h => by cases h) (fun _ => ?_)
        refine z_aload_n (pc2 := 47) rfl rfl rfl ?_
        refine z_bipush (pc2 := 49) rfl rfl (by decide) ?_
        refine z_callV (y2 := 143) (as := [_]) (rest := []) (pc2 := 52) rfl rfl rfl rfl t1 rfl ?_
        refine z_inl ?_
        refine z_lv (lv2 := [(0, _), (1, _)]) ⟨rfl, rfl, trivial⟩ ?_
        refine z_aload_n (pc2 := 1) rfl rfl rfl ?_
        refine z_dup (pc2 := 2) rfl rfl rfl ?_
        refine z_getI (pc2 := 5) 0 rfl rfl rfl rfl rfl t1 ?_
        intro v10 e10 r10 k10
        clear k10
        clear e10
        refine z_iconst (pc2 := 6) rfl rfl ?_
        refine z_iadd (pc2 := 7) rfl rfl ?_
        refine z_putI_any (pc2 := 10) rfl rfl rfl rfl rfl rfl t1 (fun _ _ => True.intro) (fun u11 u11r => ?_)
        refine z_aload_n (pc2 := 11) rfl rfl rfl ?_
        refine z_iload_n (pc2 := 12) rfl rfl rfl ?_
        refine z_putI (pc2 := 15) rfl rfl rfl rfl rfl rfl t1 (by omega) True.intro ?_
        refine z_iload_n (pc2 := 16) rfl rfl rfl ?_
        refine z_iret rfl rfl ?_
        show zB _ _ _ _ _ _ [_] _ _
        refine z_iret rfl rfl ?_
        exact hK _ _ _ _ _ _ _ (zCP_q ⟨zTn_rf, (zQi_u (zQi_u zQi_rf (by unfold zIr; omega)) (by unfold zIr; omega)), zQp_rf⟩ (zTm_rf _)) (by omega)
      ·
        replace tq8 : _ = ((1, 3, [n9]) : zT) := tq8
        refine zB_le tq8 trivial (fun q8l => ?_)
        refine z_astore (lv2 := [(5, _), (4, _), (0, _), (1, _), (2, _), (3, _)]) (pc2 := 41) rfl rfl rfl rfl ?_
        refine z_aload (pc2 := 43) rfl rfl rfl ?_
        refine z_ifnonnull (t := 53) (pc2 := 46) rfl rfl rfl (fun _ _ => ?_) (fun h => by cases h)
        refine z_iload_n (pc2 := 54) rfl rfl rfl ?_
        refine z_iconst (pc2 := 55) rfl rfl ?_
        refine z_icmp_ge (t := 65) (pc2 := 58) rfl rfl rfl (by omega) (by omega) (fun c12 => ?_) (fun c12 => ?_)
        ·
          refine z_aload (pc2 := 67) rfl rfl rfl ?_
          refine z_iload_n (pc2 := 68) rfl rfl rfl ?_
          refine z_callV (y2 := 37) (as := [_]) (rest := []) (pc2 := 71) rfl rfl rfl rfl tq8 rfl ?_
          refine z_inl ?_
          refine z_lv (lv2 := [(0, _), (1, _)]) ⟨rfl, rfl, trivial⟩ ?_
          refine z_iload_n (pc2 := 1) rfl rfl rfl ?_
          refine z_if_lt (t := 16) (pc2 := 4) rfl rfl rfl (by omega) (fun c13 => ?_) (fun c13 => ?_)
          ·
            refine z_iconst (pc2 := 17) rfl rfl ?_
            refine z_zret rfl rfl (by omega) ?_
            show zB _ _ _ _ _ _ [_] _ _
            refine z_if_ne (t := 81) (pc2 := 74) rfl rfl rfl (by omega) (fun c14 => by exfalso; omega) (fun c14 => ?_)
            refine z_aload_n (pc2 := 75) rfl rfl rfl ?_
            refine z_bipush (pc2 := 77) rfl rfl (by decide) ?_
            refine z_callV (y2 := 143) (as := [_]) (rest := []) (pc2 := 80) rfl rfl rfl rfl t1 rfl ?_
            refine z_inl ?_
            refine z_lv (lv2 := [(0, _), (1, _)]) ⟨rfl, rfl, trivial⟩ ?_
            refine z_aload_n (pc2 := 1) rfl rfl rfl ?_
            refine z_dup (pc2 := 2) rfl rfl rfl ?_
            refine z_getI (pc2 := 5) 0 rfl rfl rfl rfl rfl t1 ?_
            intro v15 e15 r15 k15
            clear k15
            clear e15
            refine z_iconst (pc2 := 6) rfl rfl ?_
            refine z_iadd (pc2 := 7) rfl rfl ?_
            refine z_putI_any (pc2 := 10) rfl rfl rfl rfl rfl rfl t1 (fun _ _ => True.intro) (fun u16 u16r => ?_)
            refine z_aload_n (pc2 := 11) rfl rfl rfl ?_
            refine z_iload_n (pc2 := 12) rfl rfl rfl ?_
            refine z_putI (pc2 := 15) rfl rfl rfl rfl rfl rfl t1 (by omega) True.intro ?_
            refine z_iload_n (pc2 := 16) rfl rfl rfl ?_
            refine z_iret rfl rfl ?_
            show zB _ _ _ _ _ _ [_] _ _
            refine z_iret rfl rfl ?_
            exact hK _ _ _ _ _ _ _ (zCP_q ⟨zTn_rf, (zQi_u (zQi_u zQi_rf (by unfold zIr; omega)) (by unfold zIr; omega)), zQp_rf⟩ (zTm_rf _)) (by omega)
          ·
            refine z_iload_n (pc2 := 5) rfl rfl rfl ?_
            refine z_aload_n (pc2 := 6) rfl rfl rfl ?_
            refine z_getI (pc2 := 9) 0 rfl rfl rfl rfl rfl tq8 ?_
            intro v17 e17 r17 k17
            replace k17 : n9 = v17 := Eq.symm k17
            subst k17
            refine z_icmp_ge (t := 16) (pc2 := 12) rfl rfl rfl (by omega) (by omega) (fun c18 => ?_) (fun c18 => ?_)
            ·
              refine z_iconst (pc2 := 17) rfl rfl ?_
              refine z_zret rfl rfl (by omega) ?_
              show zB _ _ _ _ _ _ [_] _ _
              refine z_if_ne (t := 81) (pc2 := 74) rfl rfl rfl (by omega) (fun c19 => by exfalso; omega) (fun c19 => ?_)
              refine z_aload_n (pc2 := 75) rfl rfl rfl ?_
              refine z_bipush (pc2 := 77) rfl rfl (by decide) ?_
              refine z_callV (y2 := 143) (as := [_]) (rest := []) (pc2 := 80) rfl rfl rfl rfl t1 rfl ?_
              refine z_inl ?_
              refine z_lv (lv2 := [(0, _), (1, _)]) ⟨rfl, rfl, trivial⟩ ?_
              refine z_aload_n (pc2 := 1) rfl rfl rfl ?_
              refine z_dup (pc2 := 2) rfl rfl rfl ?_
              refine z_getI (pc2 := 5) 0 rfl rfl rfl rfl rfl t1 ?_
              intro v20 e20 r20 k20
              clear k20
              clear e20
              refine z_iconst (pc2 := 6) rfl rfl ?_
              refine z_iadd (pc2 := 7) rfl rfl ?_
              refine z_putI_any (pc2 := 10) rfl rfl rfl rfl rfl rfl t1 (fun _ _ => True.intro) (fun u21 u21r => ?_)
              refine z_aload_n (pc2 := 11) rfl rfl rfl ?_
              refine z_iload_n (pc2 := 12) rfl rfl rfl ?_
              refine z_putI (pc2 := 15) rfl rfl rfl rfl rfl rfl t1 (by omega) True.intro ?_
              refine z_iload_n (pc2 := 16) rfl rfl rfl ?_
              refine z_iret rfl rfl ?_
              show zB _ _ _ _ _ _ [_] _ _
              refine z_iret rfl rfl ?_
              exact hK _ _ _ _ _ _ _ (zCP_q ⟨zTn_rf, (zQi_u (zQi_u zQi_rf (by unfold zIr; omega)) (by unfold zIr; omega)), zQp_rf⟩ (zTm_rf _)) (by omega)
            ·
              refine z_iconst (pc2 := 13) rfl rfl ?_
              refine z_goto (pc2 := 17) rfl rfl ?_
              refine z_zret rfl rfl (by omega) ?_
              show zB _ _ _ _ _ _ [_] _ _
              refine z_if_ne (t := 81) (pc2 := 74) rfl rfl rfl (by omega) (fun c22 => ?_) (fun c22 => by exfalso; omega)
              refine z_aload (pc2 := 83) rfl rfl rfl ?_
              refine z_getP (pc2 := 86) rfl rfl rfl rfl tq8 ?_
              intro p23 p23e p23k
              obtain ⟨q24, rfl, q249, tq24, -⟩ := p23k
              replace tq24 : _ = ((2, 3, [(n9), 2]) : zT) := tq24
              refine zB_le tq24 trivial (fun q24l => ?_)
              refine z_iload_n (pc2 := 87) rfl rfl rfl ?_
              refine z_iload_n (pc2 := 88) rfl rfl rfl ?_
              refine z_if_ge (t := 95) (pc2 := 91) rfl rfl rfl (by omega) (fun c25 => ?_) (fun c25 => ?_)
              ·
                refine z_iload_n (pc2 := 96) rfl rfl rfl ?_
                refine z_newI (gs := [0]) (pc2 := 98) rfl rfl (by omega) (by omega) (fun _ => True.intro) (fun T26 I26 P26 G26 w26 => ?_)
                refine z_aast (pc2 := 99) rfl rfl ((w26.1 _ (by omega)).1.trans tq24) rfl (by omega) (by omega) (by omega) (fun b hb => by cases hb; rw [w26.2.1]; exact ⟨_, rfl, rfl⟩) (Or.inr ⟨_, rfl, by omega, _, w26.2.1, by omega⟩) ?_
                refine z_aload_n (pc2 := 100) rfl rfl rfl ?_
                refine z_iconst (pc2 := 101) rfl rfl ?_
                refine z_callV (y2 := 145) (as := [_]) (rest := []) (pc2 := 104) rfl rfl rfl rfl ((w26.1 _ (by omega)).1.trans t1) rfl ?_
                refine z_inl ?_
                refine z_lv (lv2 := [(0, _), (1, _)]) ⟨rfl, rfl, trivial⟩ ?_
                refine z_aload_n (pc2 := 1) rfl rfl rfl ?_
                refine z_getP (pc2 := 4) rfl rfl rfl rfl ((w26.1 _ (by omega)).1.trans t1) ?_
                intro p27 p27e p27k
                obtain ⟨b28, rfl, hb28⟩ := zHere p27k
                have tb28 := zRm_t hC hb28
                refine z_iconst (pc2 := 5) rfl rfl ?_
                refine z_putZ (pc2 := 8) rfl rfl rfl rfl rfl rfl ((w26.1 _ (by omega)).1.trans tb28.1) (by omega) True.intro ?_
                refine z_aload_n (pc2 := 9) rfl rfl rfl ?_
                refine z_iload_n (pc2 := 10) rfl rfl rfl ?_
                refine z_callV (y2 := 144) (as := [_]) (rest := []) (pc2 := 13) rfl rfl rfl rfl ((w26.1 _ (by omega)).1.trans t1) rfl ?_
                refine z_inl ?_
                refine z_lv (lv2 := [(0, _), (1, _)]) ⟨rfl, rfl, trivial⟩ ?_
                refine z_aload_n (pc2 := 1) rfl rfl rfl ?_
                refine z_iconst (pc2 := 2) rfl rfl ?_
                refine z_putI (pc2 := 5) rfl rfl rfl rfl rfl rfl ((w26.1 _ (by omega)).1.trans t1) (by omega) True.intro ?_
                refine z_iload_n (pc2 := 6) rfl rfl rfl ?_
                refine z_iret rfl rfl ?_
                show zB _ _ _ _ _ _ [_] _ _
                refine z_iret rfl rfl ?_
                show zB _ _ _ _ _ _ [_] _ _
                refine z_iret rfl rfl ?_
                exact hK _ _ _ _ _ _ _ (zCP_q ⟨(zTn_n zTn_rf w26 (by omega)), (zQi_u (zQi_u (zQi_n zQi_rf w26 (by omega)) (by unfold zIr; omega)) (by unfold zIr; omega)), (zQp_u (zQp_n zQp_rf w26 (by omega)) (by unfold zPr; omega))⟩ (zTm_tr (zTm_rf _) (zTk_m w26.2.2.2.2))) (by omega)
              ·
                refine z_aconst_null (pc2 := 92) rfl rfl ?_
                refine z_goto (pc2 := 98) rfl rfl ?_
                refine z_aast (pc2 := 99) rfl rfl tq24 rfl (by omega) (by omega) (by omega) (fun b hb => by cases hb) (Or.inl rfl) ?_
                refine z_aload_n (pc2 := 100) rfl rfl rfl ?_
                refine z_iconst (pc2 := 101) rfl rfl ?_
                refine z_callV (y2 := 145) (as := [_]) (rest := []) (pc2 := 104) rfl rfl rfl rfl t1 rfl ?_
                refine z_inl ?_
                refine z_lv (lv2 := [(0, _), (1, _)]) ⟨rfl, rfl, trivial⟩ ?_
                refine z_aload_n (pc2 := 1) rfl rfl rfl ?_
                refine z_getP (pc2 := 4) rfl rfl rfl rfl t1 ?_
                intro p29 p29e p29k
                clear p29k; replace p29e : p29 = some b5 := by rw [p29e]; first | exact (Eq.trans p4e (congrFun (zU_row _ _ _ (by omega)) _).symm) | exact Eq.symm (Eq.trans p4e (congrFun (zU_row _ _ _ (by omega)) _).symm) | (simp [zU]; first | done | exact (Eq.trans p4e (congrFun (zU_row _ _ _ (by omega)) _).symm) | exact Eq.symm (Eq.trans p4e (congrFun (zU_row _ _ _ (by omega)) _).symm) | omega)
                subst p29e
                refine z_iconst (pc2 := 5) rfl rfl ?_
                refine z_putZ (pc2 := 8) rfl rfl rfl rfl rfl rfl tb5.1 (by omega) True.intro ?_
                refine z_aload_n (pc2 := 9) rfl rfl rfl ?_
                refine z_iload_n (pc2 := 10) rfl rfl rfl ?_
                refine z_callV (y2 := 144) (as := [_]) (rest := []) (pc2 := 13) rfl rfl rfl rfl t1 rfl ?_
                refine z_inl ?_
                refine z_lv (lv2 := [(0, _), (1, _)]) ⟨rfl, rfl, trivial⟩ ?_
                refine z_aload_n (pc2 := 1) rfl rfl rfl ?_
                refine z_iconst (pc2 := 2) rfl rfl ?_
                refine z_putI (pc2 := 5) rfl rfl rfl rfl rfl rfl t1 (by omega) True.intro ?_
                refine z_iload_n (pc2 := 6) rfl rfl rfl ?_
                refine z_iret rfl rfl ?_
                show zB _ _ _ _ _ _ [_] _ _
                refine z_iret rfl rfl ?_
                show zB _ _ _ _ _ _ [_] _ _
                refine z_iret rfl rfl ?_
                exact hK _ _ _ _ _ _ _ (zCP_q ⟨zTn_rf, (zQi_u (zQi_u zQi_rf (by unfold zIr; omega)) (by unfold zIr; omega)), (zQp_u zQp_rf (by unfold zPr; omega))⟩ (zTm_rf _)) (by omega)
        ·
          refine z_aload_n (pc2 := 59) rfl rfl rfl ?_
          refine z_bipush (pc2 := 61) rfl rfl (by decide) ?_
          refine z_callV (y2 := 143) (as := [_]) (rest := []) (pc2 := 64) rfl rfl rfl rfl t1 rfl ?_
          refine z_inl ?_
          refine z_lv (lv2 := [(0, _), (1, _)]) ⟨rfl, rfl, trivial⟩ ?_
          refine z_aload_n (pc2 := 1) rfl rfl rfl ?_
          refine z_dup (pc2 := 2) rfl rfl rfl ?_
          refine z_getI (pc2 := 5) 0 rfl rfl rfl rfl rfl t1 ?_
          intro v30 e30 r30 k30
          clear k30
          clear e30
          refine z_iconst (pc2 := 6) rfl rfl ?_
          refine z_iadd (pc2 := 7) rfl rfl ?_
          refine z_putI_any (pc2 := 10) rfl rfl rfl rfl rfl rfl t1 (fun _ _ => True.intro) (fun u31 u31r => ?_)
          refine z_aload_n (pc2 := 11) rfl rfl rfl ?_
          refine z_iload_n (pc2 := 12) rfl rfl rfl ?_
          refine z_putI (pc2 := 15) rfl rfl rfl rfl rfl rfl t1 (by omega) True.intro ?_
          refine z_iload_n (pc2 := 16) rfl rfl rfl ?_
          refine z_iret rfl rfl ?_
          show zB _ _ _ _ _ _ [_] _ _
          refine z_iret rfl rfl ?_
          exact hK _ _ _ _ _ _ _ (zCP_q ⟨zTn_rf, (zQi_u (zQi_u zQi_rf (by unfold zIr; omega)) (by unfold zIr; omega)), zQp_rf⟩ (zTm_rf _)) (by omega)
    ·
      refine z_aload_n (pc2 := 24) rfl rfl rfl ?_
      refine z_iload (pc2 := 26) rfl rfl rfl ?_
      refine z_callV (y2 := 142) (as := [_]) (rest := []) (pc2 := 29) rfl rfl rfl rfl t1 rfl ?_
      refine z_inl ?_
      refine z_lv (lv2 := [(0, _), (1, _)]) ⟨rfl, rfl, trivial⟩ ?_
      refine z_aload_n (pc2 := 1) rfl rfl rfl ?_
      refine z_iload_n (pc2 := 2) rfl rfl rfl ?_
      refine z_putI (pc2 := 5) rfl rfl rfl rfl rfl rfl t1 (by omega) True.intro ?_
      refine z_iload_n (pc2 := 6) rfl rfl rfl ?_
      refine z_iret rfl rfl ?_
      show zB _ _ _ _ _ _ [_] _ _
      refine z_iret rfl rfl ?_
      exact hK _ _ _ _ _ _ _ (zCP_q ⟨zTn_rf, (zQi_u zQi_rf (by unfold zIr; omega)), zQp_rf⟩ (zTm_rf _)) (by omega)
  ·
    refine z_iconst (pc2 := 9) rfl rfl ?_
    refine z_goto (pc2 := 13) rfl rfl ?_
    refine z_callV (y2 := 146) (as := [_, _]) (rest := []) (pc2 := 16) rfl rfl rfl rfl t1 rfl ?_
    refine c_TypeRoom_whyNotChange hn hC (by omega) (by omega) (fun w32 w32r w32z => ?_)
    show zB _ _ _ _ _ _ [_] _ _
    refine z_istore (lv2 := [(4, _), (0, _), (1, _), (2, _), (3, _)]) (pc2 := 18) rfl rfl rfl rfl ?_
    refine z_iload (pc2 := 20) rfl rfl rfl ?_
    refine z_if_eq (t := 30) (pc2 := 23) rfl rfl rfl (by omega) (fun c33 => ?_) (fun c33 => ?_)
    ·
      refine z_aload_n (pc2 := 31) rfl rfl rfl ?_
      refine z_getP (pc2 := 34) rfl rfl rfl rfl t1 ?_
      intro p34 p34e p34k
      obtain ⟨b35, rfl, hb35⟩ := zHere p34k
      have tb35 := zRm_t hC hb35
      refine z_getP (pc2 := 37) rfl rfl rfl rfl tb35.1 ?_
      intro p36 p36e p36k
      replace p36k : p36 = some (b35 + 1) := p36k; clear p36e; subst p36k
      refine z_iload_n (pc2 := 38) rfl rfl rfl ?_
      refine z_aald (pc2 := 39) rfl rfl tb35.2.1 rfl (by omega) (by omega) (by omega) ?_
      intro p37 p37e p37k
      rcases p37k with rfl | ⟨q38, rfl, q389, n39, tq38, q38b⟩
      ·
        refine z_astore (lv2 := [(5, _), (4, _), (0, _), (1, _), (2, _), (3, _)]) (pc2 := 41) rfl rfl rfl rfl ?_
        refine z_aload (pc2 := 43) rfl rfl rfl ?_
        refine z_ifnonnull (t := 53) (pc2 := 46) rfl rfl rfl (fun a h => by cases h) (fun _ => ?_)
        refine z_aload_n (pc2 := 47) rfl rfl rfl ?_
        refine z_bipush (pc2 := 49) rfl rfl (by decide) ?_
        refine z_callV (y2 := 143) (as := [_]) (rest := []) (pc2 := 52) rfl rfl rfl rfl t1 rfl ?_
        refine z_inl ?_
        refine z_lv (lv2 := [(0, _), (1, _)]) ⟨rfl, rfl, trivial⟩ ?_
        refine z_aload_n (pc2 := 1) rfl rfl rfl ?_
        refine z_dup (pc2 := 2) rfl rfl rfl ?_
        refine z_getI (pc2 := 5) 0 rfl rfl rfl rfl rfl t1 ?_
        intro v40 e40 r40 k40
        clear k40
        clear e40
        refine z_iconst (pc2 := 6) rfl rfl ?_
        refine z_iadd (pc2 := 7) rfl rfl ?_
        refine z_putI_any (pc2 := 10) rfl rfl rfl rfl rfl rfl t1 (fun _ _ => True.intro) (fun u41 u41r => ?_)
        refine z_aload_n (pc2 := 11) rfl rfl rfl ?_
        refine z_iload_n (pc2 := 12) rfl rfl rfl ?_
        refine z_putI (pc2 := 15) rfl rfl rfl rfl rfl rfl t1 (by omega) True.intro ?_
        refine z_iload_n (pc2 := 16) rfl rfl rfl ?_
        refine z_iret rfl rfl ?_
        show zB _ _ _ _ _ _ [_] _ _
        refine z_iret rfl rfl ?_
        exact hK _ _ _ _ _ _ _ (zCP_q ⟨zTn_rf, (zQi_u (zQi_u zQi_rf (by unfold zIr; omega)) (by unfold zIr; omega)), zQp_rf⟩ (zTm_rf _)) (by omega)
      ·
        replace tq38 : _ = ((1, 3, [n39]) : zT) := tq38
        refine zB_le tq38 trivial (fun q38l => ?_)
        refine z_astore (lv2 := [(5, _), (4, _), (0, _), (1, _), (2, _), (3, _)]) (pc2 := 41) rfl rfl rfl rfl ?_
        refine z_aload (pc2 := 43) rfl rfl rfl ?_
        refine z_ifnonnull (t := 53) (pc2 := 46) rfl rfl rfl (fun _ _ => ?_) (fun h => by cases h)
        refine z_iload_n (pc2 := 54) rfl rfl rfl ?_
        refine z_iconst (pc2 := 55) rfl rfl ?_
        refine z_icmp_ge (t := 65) (pc2 := 58) rfl rfl rfl (by omega) (by omega) (fun c42 => ?_) (fun c42 => by exfalso; omega)
        refine z_aload (pc2 := 67) rfl rfl rfl ?_
        refine z_iload_n (pc2 := 68) rfl rfl rfl ?_
        refine z_callV (y2 := 37) (as := [_]) (rest := []) (pc2 := 71) rfl rfl rfl rfl tq38 rfl ?_
        refine z_inl ?_
        refine z_lv (lv2 := [(0, _), (1, _)]) ⟨rfl, rfl, trivial⟩ ?_
        refine z_iload_n (pc2 := 1) rfl rfl rfl ?_
        refine z_if_lt (t := 16) (pc2 := 4) rfl rfl rfl (by omega) (fun c43 => ?_) (fun c43 => ?_)
        ·
          refine z_iconst (pc2 := 17) rfl rfl ?_
          refine z_zret rfl rfl (by omega) ?_
          show zB _ _ _ _ _ _ [_] _ _
          refine z_if_ne (t := 81) (pc2 := 74) rfl rfl rfl (by omega) (fun c44 => by exfalso; omega) (fun c44 => ?_)
          refine z_aload_n (pc2 := 75) rfl rfl rfl ?_
          refine z_bipush (pc2 := 77) rfl rfl (by decide) ?_
          refine z_callV (y2 := 143) (as := [_]) (rest := []) (pc2 := 80) rfl rfl rfl rfl t1 rfl ?_
          refine z_inl ?_
          refine z_lv (lv2 := [(0, _), (1, _)]) ⟨rfl, rfl, trivial⟩ ?_
          refine z_aload_n (pc2 := 1) rfl rfl rfl ?_
          refine z_dup (pc2 := 2) rfl rfl rfl ?_
          refine z_getI (pc2 := 5) 0 rfl rfl rfl rfl rfl t1 ?_
          intro v45 e45 r45 k45
          clear k45
          clear e45
          refine z_iconst (pc2 := 6) rfl rfl ?_
          refine z_iadd (pc2 := 7) rfl rfl ?_
          refine z_putI_any (pc2 := 10) rfl rfl rfl rfl rfl rfl t1 (fun _ _ => True.intro) (fun u46 u46r => ?_)
          refine z_aload_n (pc2 := 11) rfl rfl rfl ?_
          refine z_iload_n (pc2 := 12) rfl rfl rfl ?_
          refine z_putI (pc2 := 15) rfl rfl rfl rfl rfl rfl t1 (by omega) True.intro ?_
          refine z_iload_n (pc2 := 16) rfl rfl rfl ?_
          refine z_iret rfl rfl ?_
          show zB _ _ _ _ _ _ [_] _ _
          refine z_iret rfl rfl ?_
          exact hK _ _ _ _ _ _ _ (zCP_q ⟨zTn_rf, (zQi_u (zQi_u zQi_rf (by unfold zIr; omega)) (by unfold zIr; omega)), zQp_rf⟩ (zTm_rf _)) (by omega)
        ·
          refine z_iload_n (pc2 := 5) rfl rfl rfl ?_
          refine z_aload_n (pc2 := 6) rfl rfl rfl ?_
          refine z_getI (pc2 := 9) 0 rfl rfl rfl rfl rfl tq38 ?_
          intro v47 e47 r47 k47
          replace k47 : n39 = v47 := Eq.symm k47
          subst k47
          refine z_icmp_ge (t := 16) (pc2 := 12) rfl rfl rfl (by omega) (by omega) (fun c48 => ?_) (fun c48 => ?_)
          ·
            refine z_iconst (pc2 := 17) rfl rfl ?_
            refine z_zret rfl rfl (by omega) ?_
            show zB _ _ _ _ _ _ [_] _ _
            refine z_if_ne (t := 81) (pc2 := 74) rfl rfl rfl (by omega) (fun c49 => by exfalso; omega) (fun c49 => ?_)
            refine z_aload_n (pc2 := 75) rfl rfl rfl ?_
            refine z_bipush (pc2 := 77) rfl rfl (by decide) ?_
            refine z_callV (y2 := 143) (as := [_]) (rest := []) (pc2 := 80) rfl rfl rfl rfl t1 rfl ?_
            refine z_inl ?_
            refine z_lv (lv2 := [(0, _), (1, _)]) ⟨rfl, rfl, trivial⟩ ?_
            refine z_aload_n (pc2 := 1) rfl rfl rfl ?_
            refine z_dup (pc2 := 2) rfl rfl rfl ?_
            refine z_getI (pc2 := 5) 0 rfl rfl rfl rfl rfl t1 ?_
            intro v50 e50 r50 k50
            clear k50
            clear e50
            refine z_iconst (pc2 := 6) rfl rfl ?_
            refine z_iadd (pc2 := 7) rfl rfl ?_
            refine z_putI_any (pc2 := 10) rfl rfl rfl rfl rfl rfl t1 (fun _ _ => True.intro) (fun u51 u51r => ?_)
            refine z_aload_n (pc2 := 11) rfl rfl rfl ?_
            refine z_iload_n (pc2 := 12) rfl rfl rfl ?_
            refine z_putI (pc2 := 15) rfl rfl rfl rfl rfl rfl t1 (by omega) True.intro ?_
            refine z_iload_n (pc2 := 16) rfl rfl rfl ?_
            refine z_iret rfl rfl ?_
            show zB _ _ _ _ _ _ [_] _ _
            refine z_iret rfl rfl ?_
            exact hK _ _ _ _ _ _ _ (zCP_q ⟨zTn_rf, (zQi_u (zQi_u zQi_rf (by unfold zIr; omega)) (by unfold zIr; omega)), zQp_rf⟩ (zTm_rf _)) (by omega)
          ·
            refine z_iconst (pc2 := 13) rfl rfl ?_
            refine z_goto (pc2 := 17) rfl rfl ?_
            refine z_zret rfl rfl (by omega) ?_
            show zB _ _ _ _ _ _ [_] _ _
            refine z_if_ne (t := 81) (pc2 := 74) rfl rfl rfl (by omega) (fun c52 => ?_) (fun c52 => by exfalso; omega)
            refine z_aload (pc2 := 83) rfl rfl rfl ?_
            refine z_getP (pc2 := 86) rfl rfl rfl rfl tq38 ?_
            intro p53 p53e p53k
            obtain ⟨q54, rfl, q549, tq54, -⟩ := p53k
            replace tq54 : _ = ((2, 3, [(n39), 2]) : zT) := tq54
            refine zB_le tq54 trivial (fun q54l => ?_)
            refine z_iload_n (pc2 := 87) rfl rfl rfl ?_
            refine z_iload_n (pc2 := 88) rfl rfl rfl ?_
            refine z_if_ge (t := 95) (pc2 := 91) rfl rfl rfl (by omega) (fun c55 => ?_) (fun c55 => by exfalso; omega)
            refine z_iload_n (pc2 := 96) rfl rfl rfl ?_
            refine z_newI (gs := [0]) (pc2 := 98) rfl rfl (by omega) (by omega) (fun _ => True.intro) (fun T56 I56 P56 G56 w56 => ?_)
            refine z_aast (pc2 := 99) rfl rfl ((w56.1 _ (by omega)).1.trans tq54) rfl (by omega) (by omega) (by omega) (fun b hb => by cases hb; rw [w56.2.1]; exact ⟨_, rfl, rfl⟩) (Or.inr ⟨_, rfl, by omega, _, w56.2.1, by omega⟩) ?_
            refine z_aload_n (pc2 := 100) rfl rfl rfl ?_
            refine z_iconst (pc2 := 101) rfl rfl ?_
            refine z_callV (y2 := 145) (as := [_]) (rest := []) (pc2 := 104) rfl rfl rfl rfl ((w56.1 _ (by omega)).1.trans t1) rfl ?_
            refine z_inl ?_
            refine z_lv (lv2 := [(0, _), (1, _)]) ⟨rfl, rfl, trivial⟩ ?_
            refine z_aload_n (pc2 := 1) rfl rfl rfl ?_
            refine z_getP (pc2 := 4) rfl rfl rfl rfl ((w56.1 _ (by omega)).1.trans t1) ?_
            intro p57 p57e p57k
            obtain ⟨b58, rfl, hb58⟩ := zHere p57k
            have tb58 := zRm_t hC hb58
            refine z_iconst (pc2 := 5) rfl rfl ?_
            refine z_putZ (pc2 := 8) rfl rfl rfl rfl rfl rfl ((w56.1 _ (by omega)).1.trans tb58.1) (by omega) True.intro ?_
            refine z_aload_n (pc2 := 9) rfl rfl rfl ?_
            refine z_iload_n (pc2 := 10) rfl rfl rfl ?_
            refine z_callV (y2 := 144) (as := [_]) (rest := []) (pc2 := 13) rfl rfl rfl rfl ((w56.1 _ (by omega)).1.trans t1) rfl ?_
            refine z_inl ?_
            refine z_lv (lv2 := [(0, _), (1, _)]) ⟨rfl, rfl, trivial⟩ ?_
            refine z_aload_n (pc2 := 1) rfl rfl rfl ?_
            refine z_iconst (pc2 := 2) rfl rfl ?_
            refine z_putI (pc2 := 5) rfl rfl rfl rfl rfl rfl ((w56.1 _ (by omega)).1.trans t1) (by omega) True.intro ?_
            refine z_iload_n (pc2 := 6) rfl rfl rfl ?_
            refine z_iret rfl rfl ?_
            show zB _ _ _ _ _ _ [_] _ _
            refine z_iret rfl rfl ?_
            show zB _ _ _ _ _ _ [_] _ _
            refine z_iret rfl rfl ?_
            exact hK _ _ _ _ _ _ _ (zCP_q ⟨(zTn_n zTn_rf w56 (by omega)), (zQi_u (zQi_u (zQi_n zQi_rf w56 (by omega)) (by unfold zIr; omega)) (by unfold zIr; omega)), (zQp_u (zQp_n zQp_rf w56 (by omega)) (by unfold zPr; omega))⟩ (zTm_tr (zTm_rf _) (zTk_m w56.2.2.2.2))) (by omega)
    ·
      refine z_aload_n (pc2 := 24) rfl rfl rfl ?_
      refine z_iload (pc2 := 26) rfl rfl rfl ?_
      refine z_callV (y2 := 142) (as := [_]) (rest := []) (pc2 := 29) rfl rfl rfl rfl t1 rfl ?_
      refine z_inl ?_
      refine z_lv (lv2 := [(0, _), (1, _)]) ⟨rfl, rfl, trivial⟩ ?_
      refine z_aload_n (pc2 := 1) rfl rfl rfl ?_
      refine z_iload_n (pc2 := 2) rfl rfl rfl ?_
      refine z_putI (pc2 := 5) rfl rfl rfl rfl rfl rfl t1 (by omega) True.intro ?_
      refine z_iload_n (pc2 := 6) rfl rfl rfl ?_
      refine z_iret rfl rfl ?_
      show zB _ _ _ _ _ _ [_] _ _
      refine z_iret rfl rfl ?_
      exact hK _ _ _ _ _ _ _ (zCP_q ⟨zTn_rf, (zQi_u zQi_rf (by unfold zIr; omega)), zQp_rf⟩ (zTm_rf _)) (by omega)
set_option maxHeartbeats 8000000 in
theorem c_TypeRoom_text {L : Nat} {xs : Nat → Int32} {n sl : Nat} {T : Nat → zT} {I : Nat → Nat → Int} {P : Nat → Nat → Option Nat} {G : Nat → Nat → Int} {K : List zV → zH → Prop} {a c : Int} (hn : 90 ≤ n) (hC : ∀ a, 1 ≤ a → a ≤ 55 → T a = zFixC a) (ha : zR a) (hc : zR c) (hK : ∀ e n2 sl2 T2 I2 P2 G2, zCP n T T2 I I2 P P2 → (n ≤ n2 ∧ n2 ≤ n + 1 ∧ sl2 ≤ sl + 40) → K [.inl e] (n2, sl2, T2, I2, P2, G2)) : zX zMd L xs 115 [.inr (.inl (some 1)), .inl a, .inl c] (n, sl, T, I, P, G) K := by
  have t1 : T 1 = (1, 11, [1]) := hC 1 (by decide) (by decide)
  refine z_inl ?_
  refine z_lv (lv2 := [(0, _), (1, _), (2, _)]) ⟨rfl, rfl, rfl, trivial⟩ ?_
  refine z_iload_n (pc2 := 1) rfl rfl rfl ?_
  refine z_callS (y2 := 152) (as := [_]) (rest := []) (pc2 := 4) rfl rfl rfl rfl ?_
  refine z_inl ?_
  refine z_lv (lv2 := [(0, _)]) ⟨rfl, trivial⟩ ?_
  refine z_iload_n (pc2 := 1) rfl rfl rfl ?_
  refine z_iconst (pc2 := 2) rfl rfl ?_
  refine z_bipush (pc2 := 4) rfl rfl (by decide) ?_
  refine z_callS (y2 := 155) (as := [_, _, _]) (rest := []) (pc2 := 7) rfl rfl rfl rfl ?_
  refine c_TypeRoom_isOutside (by omega) (by omega) (by omega) (fun e1 e1a e1b e1c => ?_)
  show zB _ _ _ _ _ _ [_] _ _
  refine z_zret rfl rfl (by omega) ?_
  show zB _ _ _ _ _ _ [_] _ _
  refine z_if_ne (t := 13) (pc2 := 7) rfl rfl rfl (by omega) (fun c2 => ?_) (fun c2 => ?_)
  ·
    refine z_aload_n (pc2 := 14) rfl rfl rfl ?_
    refine z_iconst (pc2 := 15) rfl rfl ?_
    refine z_callV (y2 := 142) (as := [_]) (rest := []) (pc2 := 18) rfl rfl rfl rfl t1 rfl ?_
    refine z_inl ?_
    refine z_lv (lv2 := [(0, _), (1, _)]) ⟨rfl, rfl, trivial⟩ ?_
    refine z_aload_n (pc2 := 1) rfl rfl rfl ?_
    refine z_iload_n (pc2 := 2) rfl rfl rfl ?_
    refine z_putI (pc2 := 5) rfl rfl rfl rfl rfl rfl t1 (by omega) True.intro ?_
    refine z_iload_n (pc2 := 6) rfl rfl rfl ?_
    refine z_iret rfl rfl ?_
    show zB _ _ _ _ _ _ [_] _ _
    refine z_iret rfl rfl ?_
    exact hK _ _ _ _ _ _ _ (zCP_q ⟨zTn_rf, (zQi_u zQi_rf (by unfold zIr; omega)), zQp_rf⟩ (zTm_rf _)) (by omega)
  ·
    refine z_iload_n (pc2 := 8) rfl rfl rfl ?_
    refine z_bipush (pc2 := 10) rfl rfl (by decide) ?_
    refine z_icmp_le (t := 19) (pc2 := 13) rfl rfl rfl (by omega) (by omega) (fun c3 => ?_) (fun c3 => ?_)
    ·
      refine z_aload_n (pc2 := 20) rfl rfl rfl ?_
      refine z_callV (y2 := 148) (as := []) (rest := []) (pc2 := 23) rfl rfl rfl rfl t1 rfl ?_
      refine z_inl ?_
      refine z_lv (lv2 := [(0, _)]) ⟨rfl, trivial⟩ ?_
      refine z_aload_n (pc2 := 1) rfl rfl rfl ?_
      refine z_getI (pc2 := 4) 0 rfl rfl rfl rfl rfl t1 ?_
      intro v4 e4 r4 k4
      clear k4
      clear e4
      refine z_sipush (pc2 := 7) rfl rfl (by decide) ?_
      refine z_icmp_lt (t := 14) (pc2 := 10) rfl rfl rfl (by omega) (by omega) (fun c5 => ?_) (fun c5 => ?_)
      ·
        refine z_iconst (pc2 := 15) rfl rfl ?_
        refine z_zret rfl rfl (by omega) ?_
        show zB _ _ _ _ _ _ [_] _ _
        refine z_if_eq (t := 33) (pc2 := 26) rfl rfl rfl (by omega) (fun c6 => ?_) (fun c6 => by exfalso; omega)
        refine z_iload_n (pc2 := 34) rfl rfl rfl ?_
        refine z_iconst (pc2 := 35) rfl rfl ?_
        refine z_icmp_ge (t := 45) (pc2 := 38) rfl rfl rfl (by omega) (by omega) (fun c7 => ?_) (fun c7 => ?_)
        ·
          refine z_aload_n (pc2 := 46) rfl rfl rfl ?_
          refine z_getP (pc2 := 49) rfl rfl rfl rfl t1 ?_
          intro p8 p8e p8k
          obtain ⟨b9, rfl, hb9⟩ := zHere p8k
          have tb9 := zRm_t hC hb9
          refine z_getP (pc2 := 52) rfl rfl rfl rfl tb9.1 ?_
          intro p10 p10e p10k
          replace p10k : p10 = some (b9 + 3) := p10k; clear p10e; subst p10k
          refine z_iload_n (pc2 := 53) rfl rfl rfl ?_
          refine z_iload_n (pc2 := 54) rfl rfl rfl ?_
          refine z_if_ge (t := 61) (pc2 := 57) rfl rfl rfl (by omega) (fun c11 => ?_) (fun c11 => ?_)
          ·
            refine z_iload_n (pc2 := 62) rfl rfl rfl ?_
            refine z_newI (gs := [25]) (pc2 := 64) rfl rfl (by omega) (by omega) (fun k => by show (0 : Int) ≤ 0 ∧ (0 : Int) ≤ 127; omega) (fun T12 I12 P12 G12 w12 => ?_)
            refine z_aast (pc2 := 65) rfl rfl ((w12.1 _ (by omega)).1.trans tb9.2.2.2.1) rfl (by omega) (by omega) (by omega) (fun b hb => by cases hb; rw [w12.2.1]; exact ⟨_, rfl, rfl⟩) (Or.inr ⟨_, rfl, by omega, _, w12.2.1, by omega⟩) ?_
            refine z_aload_n (pc2 := 66) rfl rfl rfl ?_
            refine z_iconst (pc2 := 67) rfl rfl ?_
            refine z_callV (y2 := 144) (as := [_]) (rest := []) (pc2 := 70) rfl rfl rfl rfl ((w12.1 _ (by omega)).1.trans t1) rfl ?_
            refine z_inl ?_
            refine z_lv (lv2 := [(0, _), (1, _)]) ⟨rfl, rfl, trivial⟩ ?_
            refine z_aload_n (pc2 := 1) rfl rfl rfl ?_
            refine z_iconst (pc2 := 2) rfl rfl ?_
            refine z_putI (pc2 := 5) rfl rfl rfl rfl rfl rfl ((w12.1 _ (by omega)).1.trans t1) (by omega) True.intro ?_
            refine z_iload_n (pc2 := 6) rfl rfl rfl ?_
            refine z_iret rfl rfl ?_
            show zB _ _ _ _ _ _ [_] _ _
            refine z_iret rfl rfl ?_
            exact hK _ _ _ _ _ _ _ (zCP_q ⟨(zTn_n zTn_rf w12 (by omega)), (zQi_u (zQi_n zQi_rf w12 (by omega)) (by unfold zIr; omega)), (zQp_u (zQp_n zQp_rf w12 (by omega)) (by unfold zPr; omega))⟩ (zTm_tr (zTm_rf _) (zTk_m w12.2.2.2.2))) (by omega)
          ·
            refine z_aconst_null (pc2 := 58) rfl rfl ?_
            refine z_goto (pc2 := 64) rfl rfl ?_
            refine z_aast (pc2 := 65) rfl rfl tb9.2.2.2.1 rfl (by omega) (by omega) (by omega) (fun b hb => by cases hb) (Or.inl rfl) ?_
            refine z_aload_n (pc2 := 66) rfl rfl rfl ?_
            refine z_iconst (pc2 := 67) rfl rfl ?_
            refine z_callV (y2 := 144) (as := [_]) (rest := []) (pc2 := 70) rfl rfl rfl rfl t1 rfl ?_
            refine z_inl ?_
            refine z_lv (lv2 := [(0, _), (1, _)]) ⟨rfl, rfl, trivial⟩ ?_
            refine z_aload_n (pc2 := 1) rfl rfl rfl ?_
            refine z_iconst (pc2 := 2) rfl rfl ?_
            refine z_putI (pc2 := 5) rfl rfl rfl rfl rfl rfl t1 (by omega) True.intro ?_
            refine z_iload_n (pc2 := 6) rfl rfl rfl ?_
            refine z_iret rfl rfl ?_
            show zB _ _ _ _ _ _ [_] _ _
            refine z_iret rfl rfl ?_
            exact hK _ _ _ _ _ _ _ (zCP_q ⟨zTn_rf, (zQi_u zQi_rf (by unfold zIr; omega)), (zQp_u zQp_rf (by unfold zPr; omega))⟩ (zTm_rf _)) (by omega)
        ·
          refine z_aload_n (pc2 := 39) rfl rfl rfl ?_
          refine z_bipush (pc2 := 41) rfl rfl (by decide) ?_
          refine z_callV (y2 := 143) (as := [_]) (rest := []) (pc2 := 44) rfl rfl rfl rfl t1 rfl ?_
          refine z_inl ?_
          refine z_lv (lv2 := [(0, _), (1, _)]) ⟨rfl, rfl, trivial⟩ ?_
          refine z_aload_n (pc2 := 1) rfl rfl rfl ?_
          refine z_dup (pc2 := 2) rfl rfl rfl ?_
          refine z_getI (pc2 := 5) 0 rfl rfl rfl rfl rfl t1 ?_
          intro v13 e13 r13 k13
          clear k13
          clear e13
          refine z_iconst (pc2 := 6) rfl rfl ?_
          refine z_iadd (pc2 := 7) rfl rfl ?_
          refine z_putI_any (pc2 := 10) rfl rfl rfl rfl rfl rfl t1 (fun _ _ => True.intro) (fun u14 u14r => ?_)
          refine z_aload_n (pc2 := 11) rfl rfl rfl ?_
          refine z_iload_n (pc2 := 12) rfl rfl rfl ?_
          refine z_putI (pc2 := 15) rfl rfl rfl rfl rfl rfl t1 (by omega) True.intro ?_
          refine z_iload_n (pc2 := 16) rfl rfl rfl ?_
          refine z_iret rfl rfl ?_
          show zB _ _ _ _ _ _ [_] _ _
          refine z_iret rfl rfl ?_
          exact hK _ _ _ _ _ _ _ (zCP_q ⟨zTn_rf, (zQi_u (zQi_u zQi_rf (by unfold zIr; omega)) (by unfold zIr; omega)), zQp_rf⟩ (zTm_rf _)) (by omega)
      ·
        refine z_iconst (pc2 := 11) rfl rfl ?_
        refine z_goto (pc2 := 15) rfl rfl ?_
        refine z_zret rfl rfl (by omega) ?_
        show zB _ _ _ _ _ _ [_] _ _
        refine z_if_eq (t := 33) (pc2 := 26) rfl rfl rfl (by omega) (fun c15 => by exfalso; omega) (fun c15 => ?_)
        refine z_aload_n (pc2 := 27) rfl rfl rfl ?_
        refine z_bipush (pc2 := 29) rfl rfl (by decide) ?_
        refine z_callV (y2 := 142) (as := [_]) (rest := []) (pc2 := 32) rfl rfl rfl rfl t1 rfl ?_
        refine z_inl ?_
        refine z_lv (lv2 := [(0, _), (1, _)]) ⟨rfl, rfl, trivial⟩ ?_
        refine z_aload_n (pc2 := 1) rfl rfl rfl ?_
        refine z_iload_n (pc2 := 2) rfl rfl rfl ?_
        refine z_putI (pc2 := 5) rfl rfl rfl rfl rfl rfl t1 (by omega) True.intro ?_
        refine z_iload_n (pc2 := 6) rfl rfl rfl ?_
        refine z_iret rfl rfl ?_
        show zB _ _ _ _ _ _ [_] _ _
        refine z_iret rfl rfl ?_
        exact hK _ _ _ _ _ _ _ (zCP_q ⟨zTn_rf, (zQi_u zQi_rf (by unfold zIr; omega)), zQp_rf⟩ (zTm_rf _)) (by omega)
    ·
      refine z_aload_n (pc2 := 14) rfl rfl rfl ?_
      refine z_iconst (pc2 := 15) rfl rfl ?_
      refine z_callV (y2 := 142) (as := [_]) (rest := []) (pc2 := 18) rfl rfl rfl rfl t1 rfl ?_
      refine z_inl ?_
      refine z_lv (lv2 := [(0, _), (1, _)]) ⟨rfl, rfl, trivial⟩ ?_
      refine z_aload_n (pc2 := 1) rfl rfl rfl ?_
      refine z_iload_n (pc2 := 2) rfl rfl rfl ?_
      refine z_putI (pc2 := 5) rfl rfl rfl rfl rfl rfl t1 (by omega) True.intro ?_
      refine z_iload_n (pc2 := 6) rfl rfl rfl ?_
      refine z_iret rfl rfl ?_
      show zB _ _ _ _ _ _ [_] _ _
      refine z_iret rfl rfl ?_
      exact hK _ _ _ _ _ _ _ (zCP_q ⟨zTn_rf, (zQi_u zQi_rf (by unfold zIr; omega)), zQp_rf⟩ (zTm_rf _)) (by omega)
set_option maxHeartbeats 8000000 in
theorem c_TypeRoom_told {L : Nat} {xs : Nat → Int32} {n sl : Nat} {T : Nat → zT} {I : Nat → Nat → Int} {P : Nat → Nat → Option Nat} {G : Nat → Nat → Int} {K : List zV → zH → Prop} {a : Int} (hn : 90 ≤ n) (hC : ∀ a, 1 ≤ a → a ≤ 55 → T a = zFixC a) (ha : zR a) (hK : ∀ e n2 sl2 T2 I2 P2 G2, zCP n T T2 I I2 P P2 → (n ≤ n2 ∧ n2 ≤ n + 0 ∧ sl2 ≤ sl + 0) → K [.inl e] (n2, sl2, T2, I2, P2, G2)) : zX zMd L xs 141 [.inr (.inl (some 1)), .inl a] (n, sl, T, I, P, G) K := by
  have t1 : T 1 = (1, 11, [1]) := hC 1 (by decide) (by decide)
  have t3 : T 3 = (1, 10, [1]) := hC 3 (by decide) (by decide)
  refine z_inl ?_
  refine z_lv (lv2 := [(0, _), (1, _)]) ⟨rfl, rfl, trivial⟩ ?_
  refine z_iload_n (pc2 := 1) rfl rfl rfl ?_
  refine z_tsw (td := 144) rfl rfl (by omega) (fun c1 => ?_) (fun j c1j c1h => ?_)
  ·
    refine z_iconst (pc2 := 145) rfl rfl ?_
    refine z_iret rfl rfl ?_
    exact hK _ _ _ _ _ _ _ (zCP_q ⟨zTn_rf, zQi_rf, zQp_rf⟩ (zTm_rf _)) (by omega)
  ·
    have c1t : j = 0 ∨ j = 1 ∨ j = 2 ∨ j = 3 ∨ j = 4 ∨ j = 5 ∨ j = 6 ∨ j = 7 ∨ j = 8 ∨ j = 9 := by omega
    rcases c1t with rfl | rfl | rfl | rfl | rfl | rfl | rfl | rfl | rfl | rfl
    ·
      refine ⟨_, 56, rfl, rfl, ?_⟩
      refine z_aload_n (pc2 := 57) rfl rfl rfl ?_
      refine z_getI (pc2 := 60) 0 rfl rfl rfl rfl rfl t1 ?_
      intro v2 e2 r2 k2
      replace k2 : (0 : Int) ≤ v2 ∧ v2 ≤ 1 := k2
      clear e2
      refine z_iret rfl rfl ?_
      exact hK _ _ _ _ _ _ _ (zCP_q ⟨zTn_rf, zQi_rf, zQp_rf⟩ (zTm_rf _)) (by omega)
    ·
      refine ⟨_, 61, rfl, rfl, ?_⟩
      refine z_aload_n (pc2 := 62) rfl rfl rfl ?_
      refine z_getI (pc2 := 65) 0 rfl rfl rfl rfl rfl t1 ?_
      intro v3 e3 r3 k3
      clear k3
      clear e3
      refine z_iret rfl rfl ?_
      exact hK _ _ _ _ _ _ _ (zCP_q ⟨zTn_rf, zQi_rf, zQp_rf⟩ (zTm_rf _)) (by omega)
    ·
      refine ⟨_, 66, rfl, rfl, ?_⟩
      refine z_aload_n (pc2 := 67) rfl rfl rfl ?_
      refine z_getP (pc2 := 70) rfl rfl rfl rfl t1 ?_
      intro p4 p4e p4k
      obtain ⟨b5, rfl, hb5⟩ := zHere p4k
      have tb5 := zRm_t hC hb5
      refine z_callV (y2 := 80) (as := []) (rest := []) (pc2 := 73) rfl rfl rfl rfl tb5.1 rfl ?_
      refine c_Room_bought hn hC (by omega) (fun w6 => ?_)
      show zB _ _ _ _ _ _ [_] _ _
      refine z_iret rfl rfl ?_
      exact hK _ _ _ _ _ _ _ (zCP_q ⟨zTn_rf, zQi_rf, zQp_rf⟩ (zTm_rf _)) (by omega)
    ·
      refine ⟨_, 74, rfl, rfl, ?_⟩
      refine z_aload_n (pc2 := 75) rfl rfl rfl ?_
      refine z_getP (pc2 := 78) rfl rfl rfl rfl t1 ?_
      intro p7 p7e p7k
      obtain ⟨b8, rfl, hb8⟩ := zHere p7k
      have tb8 := zRm_t hC hb8
      refine z_callV (y2 := 82) (as := []) (rest := []) (pc2 := 81) rfl rfl rfl rfl tb8.1 rfl ?_
      refine c_Room_sortsOut hn hC (by omega) (fun w9 => ?_)
      show zB _ _ _ _ _ _ [_] _ _
      refine z_iret rfl rfl ?_
      exact hK _ _ _ _ _ _ _ (zCP_q ⟨zTn_rf, zQi_rf, zQp_rf⟩ (zTm_rf _)) (by omega)
    ·
      refine ⟨_, 82, rfl, rfl, ?_⟩
      refine z_aload_n (pc2 := 83) rfl rfl rfl ?_
      refine z_getP (pc2 := 86) rfl rfl rfl rfl t1 ?_
      intro p10 p10e p10k
      obtain ⟨b11, rfl, hb11⟩ := zHere p10k
      have tb11 := zRm_t hC hb11
      refine z_getP (pc2 := 89) rfl rfl rfl rfl tb11.1 ?_
      intro p12 p12e p12k
      obtain ⟨x13, rfl, hx13⟩ := zFloorOf p12k
      have ix13 : x13 = 23 ∨ x13 = 30 ∨ x13 = 42 ∨ x13 = 49 := by omega
      have tx13 := zFl_t hC ix13
      refine z_getI (pc2 := 92) 0 rfl rfl rfl rfl rfl tx13.1 ?_
      intro v14 e14 r14 k14
      replace k14 : (0 : Int) ≤ v14 ∧ v14 ≤ 89 := k14
      clear e14
      refine z_iret rfl rfl ?_
      exact hK _ _ _ _ _ _ _ (zCP_q ⟨zTn_rf, zQi_rf, zQp_rf⟩ (zTm_rf _)) (by omega)
    ·
      refine ⟨_, 93, rfl, rfl, ?_⟩
      refine z_aload_n (pc2 := 94) rfl rfl rfl ?_
      refine z_getP (pc2 := 97) rfl rfl rfl rfl t1 ?_
      intro p15 p15e p15k
      obtain ⟨b16, rfl, hb16⟩ := zHere p15k
      have tb16 := zRm_t hC hb16
      refine z_getP (pc2 := 100) rfl rfl rfl rfl tb16.1 ?_
      intro p17 p17e p17k
      obtain ⟨x18, rfl, hx18⟩ := zFloorOf p17k
      have ix18 : x18 = 23 ∨ x18 = 30 ∨ x18 = 42 ∨ x18 = 49 := by omega
      have tx18 := zFl_t hC ix18
      refine z_getI (pc2 := 103) 0 rfl rfl rfl rfl rfl tx18.1 ?_
      intro v19 e19 r19 k19
      replace k19 : (0 : Int) ≤ v19 ∧ v19 ≤ 89 := k19
      clear e19
      refine z_iret rfl rfl ?_
      exact hK _ _ _ _ _ _ _ (zCP_q ⟨zTn_rf, zQi_rf, zQp_rf⟩ (zTm_rf _)) (by omega)
    ·
      refine ⟨_, 104, rfl, rfl, ?_⟩
      refine z_aload_n (pc2 := 105) rfl rfl rfl ?_
      refine z_getP (pc2 := 108) rfl rfl rfl rfl t1 ?_
      intro p20 p20e p20k
      obtain ⟨b21, rfl, hb21⟩ := zHere p20k
      have tb21 := zRm_t hC hb21
      refine z_getP (pc2 := 111) rfl rfl rfl rfl tb21.1 ?_
      intro p22 p22e p22k
      obtain ⟨x23, rfl, hx23⟩ := zFloorOf p22k
      have ix23 : x23 = 23 ∨ x23 = 30 ∨ x23 = 42 ∨ x23 = 49 := by omega
      have tx23 := zFl_t hC ix23
      refine z_getI (pc2 := 114) 0 rfl rfl rfl rfl rfl tx23.1 ?_
      intro v24 e24 r24 k24
      replace k24 : (0 : Int) ≤ v24 ∧ v24 ≤ 12 := k24
      clear e24
      refine z_iret rfl rfl ?_
      exact hK _ _ _ _ _ _ _ (zCP_q ⟨zTn_rf, zQi_rf, zQp_rf⟩ (zTm_rf _)) (by omega)
    ·
      refine ⟨_, 115, rfl, rfl, ?_⟩
      refine z_aload_n (pc2 := 116) rfl rfl rfl ?_
      refine z_getI (pc2 := 119) 0 rfl rfl rfl rfl rfl t1 ?_
      intro v25 e25 r25 k25
      clear k25
      clear e25
      refine z_iret rfl rfl ?_
      exact hK _ _ _ _ _ _ _ (zCP_q ⟨zTn_rf, zQi_rf, zQp_rf⟩ (zTm_rf _)) (by omega)
    ·
      refine ⟨_, 120, rfl, rfl, ?_⟩
      refine z_aload_n (pc2 := 121) rfl rfl rfl ?_
      refine z_getP (pc2 := 124) rfl rfl rfl rfl t1 ?_
      intro p26 p26e p26k
      replace p26k : p26 = some 3 := p26k; clear p26e; subst p26k
      refine z_getI (pc2 := 127) 0 rfl rfl rfl rfl rfl t3 ?_
      intro v27 e27 r27 k27
      replace k27 : (0 : Int) ≤ v27 ∧ v27 ≤ 1000000 := k27
      clear e27
      refine z_iret rfl rfl ?_
      exact hK _ _ _ _ _ _ _ (zCP_q ⟨zTn_rf, zQi_rf, zQp_rf⟩ (zTm_rf _)) (by omega)
    ·
      refine ⟨_, 128, rfl, rfl, ?_⟩
      refine z_aload_n (pc2 := 129) rfl rfl rfl ?_
      refine z_getP (pc2 := 132) rfl rfl rfl rfl t1 ?_
      intro p28 p28e p28k
      obtain ⟨b29, rfl, hb29⟩ := zHere p28k
      have tb29 := zRm_t hC hb29
      refine z_getI (pc2 := 135) 2 rfl rfl rfl rfl rfl tb29.1 ?_
      intro v30 e30 r30 k30
      clear k30
      clear e30
      refine z_if_eq (t := 142) (pc2 := 138) rfl rfl rfl (by omega) (fun c31 => ?_) (fun c31 => ?_)
      ·
        refine z_iconst (pc2 := 143) rfl rfl ?_
        refine z_iret rfl rfl ?_
        exact hK _ _ _ _ _ _ _ (zCP_q ⟨zTn_rf, zQi_rf, zQp_rf⟩ (zTm_rf _)) (by omega)
      ·
        refine z_iconst (pc2 := 139) rfl rfl ?_
        refine z_goto (pc2 := 143) rfl rfl ?_
        refine z_iret rfl rfl ?_
        exact hK _ _ _ _ _ _ _ (zCP_q ⟨zTn_rf, zQi_rf, zQp_rf⟩ (zTm_rf _)) (by omega)
set_option maxHeartbeats 8000000 in
theorem c_TypeRoom_fount {L : Nat} {xs : Nat → Int32} {n sl : Nat} {T : Nat → zT} {I : Nat → Nat → Int} {P : Nat → Nat → Option Nat} {G : Nat → Nat → Int} {K : List zV → zH → Prop} {a c : Int} (hn : 90 ≤ n) (hC : ∀ a, 1 ≤ a → a ≤ 55 → T a = zFixC a) (ha : zR a) (hc : zR c) (hK : ∀ e n2 sl2 T2 I2 P2 G2, zCP n T T2 I I2 P P2 → (n ≤ n2 ∧ n2 ≤ n + 6 ∧ sl2 ≤ sl + 200) → K [.inl e] (n2, sl2, T2, I2, P2, G2)) : zX zMd L xs 107 [.inr (.inl (some 1)), .inl a, .inl c] (n, sl, T, I, P, G) K := by
  have t1 : T 1 = (1, 11, [1]) := hC 1 (by decide) (by decide)
  refine z_inl ?_
  refine z_lv (lv2 := [(0, _), (1, _), (2, _)]) ⟨rfl, rfl, rfl, trivial⟩ ?_
  refine z_iload_n (pc2 := 1) rfl rfl rfl ?_
  refine z_callS (y2 := 151) (as := [_]) (rest := []) (pc2 := 4) rfl rfl rfl rfl ?_
  refine z_inl ?_
  refine z_lv (lv2 := [(0, _)]) ⟨rfl, trivial⟩ ?_
  refine z_iload_n (pc2 := 1) rfl rfl rfl ?_
  refine z_iconst (pc2 := 2) rfl rfl ?_
  refine z_iconst (pc2 := 3) rfl rfl ?_
  refine z_callS (y2 := 155) (as := [_, _, _]) (rest := []) (pc2 := 6) rfl rfl rfl rfl ?_
  refine c_TypeRoom_isOutside (by omega) (by omega) (by omega) (fun e1 e1a e1b e1c => ?_)
  show zB _ _ _ _ _ _ [_] _ _
  refine z_zret rfl rfl (by omega) ?_
  show zB _ _ _ _ _ _ [_] _ _
  refine z_if_ne (t := 13) (pc2 := 7) rfl rfl rfl (by omega) (fun c2 => ?_) (fun c2 => ?_)
  ·
    refine z_aload_n (pc2 := 14) rfl rfl rfl ?_
    refine z_iconst (pc2 := 15) rfl rfl ?_
    refine z_callV (y2 := 142) (as := [_]) (rest := []) (pc2 := 18) rfl rfl rfl rfl t1 rfl ?_
    refine z_inl ?_
    refine z_lv (lv2 := [(0, _), (1, _)]) ⟨rfl, rfl, trivial⟩ ?_
    refine z_aload_n (pc2 := 1) rfl rfl rfl ?_
    refine z_iload_n (pc2 := 2) rfl rfl rfl ?_
    refine z_putI (pc2 := 5) rfl rfl rfl rfl rfl rfl t1 (by omega) True.intro ?_
    refine z_iload_n (pc2 := 6) rfl rfl rfl ?_
    refine z_iret rfl rfl ?_
    show zB _ _ _ _ _ _ [_] _ _
    refine z_iret rfl rfl ?_
    exact hK _ _ _ _ _ _ _ (zCP_q ⟨zTn_rf, (zQi_u zQi_rf (by unfold zIr; omega)), zQp_rf⟩ (zTm_rf _)) (by omega)
  ·
    refine z_iload_n (pc2 := 8) rfl rfl rfl ?_
    refine z_bipush (pc2 := 10) rfl rfl (by decide) ?_
    refine z_icmp_le (t := 19) (pc2 := 13) rfl rfl rfl (by omega) (by omega) (fun c3 => ?_) (fun c3 => ?_)
    ·
      refine z_aload_n (pc2 := 20) rfl rfl rfl ?_
      refine z_getP (pc2 := 23) rfl rfl rfl rfl t1 ?_
      intro p4 p4e p4k
      obtain ⟨b5, rfl, hb5⟩ := zHere p4k
      have tb5 := zRm_t hC hb5
      refine z_getP (pc2 := 26) rfl rfl rfl rfl tb5.1 ?_
      intro p6 p6e p6k
      replace p6k : p6 = some (b5 + 1) := p6k; clear p6e; subst p6k
      refine z_iload_n (pc2 := 27) rfl rfl rfl ?_
      refine z_aald (pc2 := 28) rfl rfl tb5.2.1 rfl (by omega) (by omega) (by omega) ?_
      intro p7 p7e p7k
      rcases p7k with rfl | ⟨q8, rfl, q89, n9, tq8, q8b⟩
      ·
        refine z_ifnull (t := 38) (pc2 := 31) rfl rfl rfl (fun _ => ?_) (fun a h => by cases h)
        refine z_aload_n (pc2 := 39) rfl rfl rfl ?_
        refine z_callV (y2 := 148) (as := []) (rest := []) (pc2 := 42) rfl rfl rfl rfl t1 rfl ?_
        refine z_inl ?_
        refine z_lv (lv2 := [(0, _)]) ⟨rfl, trivial⟩ ?_
        refine z_aload_n (pc2 := 1) rfl rfl rfl ?_
        refine z_getI (pc2 := 4) 0 rfl rfl rfl rfl rfl t1 ?_
        intro v10 e10 r10 k10
        clear k10
        clear e10
        refine z_sipush (pc2 := 7) rfl rfl (by decide) ?_
        refine z_icmp_lt (t := 14) (pc2 := 10) rfl rfl rfl (by omega) (by omega) (fun c11 => ?_) (fun c11 => ?_)
        ·
          refine z_iconst (pc2 := 15) rfl rfl ?_
          refine z_zret rfl rfl (by omega) ?_
          show zB _ _ _ _ _ _ [_] _ _
          refine z_if_eq (t := 52) (pc2 := 45) rfl rfl rfl (by omega) (fun c12 => ?_) (fun c12 => by exfalso; omega)
          refine z_iload_n (pc2 := 53) rfl rfl rfl ?_
          refine z_if_ge (t := 63) (pc2 := 56) rfl rfl rfl (by omega) (fun c13 => ?_) (fun c13 => ?_)
          ·
            refine z_aload_n (pc2 := 64) rfl rfl rfl ?_
            refine z_getP (pc2 := 67) rfl rfl rfl rfl t1 ?_
            intro p14 p14e p14k
            clear p14k; replace p14e : p14 = some b5 := by rw [p14e]; first | exact p4e | exact Eq.symm p4e | (simp [zU]; first | done | exact p4e | exact Eq.symm p4e | omega)
            subst p14e
            refine z_getP (pc2 := 70) rfl rfl rfl rfl tb5.1 ?_
            intro p15 p15e p15k
            replace p15k : p15 = some (b5 + 1) := p15k; clear p15e; subst p15k
            refine z_iload_n (pc2 := 71) rfl rfl rfl ?_
            refine z_new (c := 3) (s := 12) (pc2 := 74) rfl rfl rfl rfl (fun _ => True.intro) (fun T16 I16 P16 G16 w16 => ?_)
            refine z_dup (pc2 := 75) rfl rfl rfl ?_
            refine z_iload_n (pc2 := 76) rfl rfl rfl ?_
            refine z_iload_n (pc2 := 77) rfl rfl rfl ?_
            refine z_callP (y2 := 36) (as := [_, _]) (rest := [_, _, _]) (pc2 := 80) rfl rfl rfl rfl ?_
            refine z_inl ?_
            refine z_lv (lv2 := [(0, _), (1, _), (2, _)]) ⟨rfl, rfl, rfl, trivial⟩ ?_
            refine z_aload_n (pc2 := 1) rfl rfl rfl ?_
            refine z_obj (pc2 := 4) rfl rfl rfl rfl ?_
            refine z_aload_n (pc2 := 5) rfl rfl rfl ?_
            refine z_bipush (pc2 := 7) rfl rfl (by decide) ?_
            refine z_newI (gs := [26, c]) (pc2 := 9) rfl rfl (by omega) (by omega) (fun k => st_26 (by omega) (by omega) (by omega)) (fun T17 I17 P17 G17 w17 => ?_)
            refine z_putP (pc2 := 12) rfl rfl rfl rfl (by first | exact z_fitO _ _ | exact z_fitA _ _) rfl ((w17.1 _ (by omega)).1.trans w16.2.1) True.intro ?_
            refine z_aload_n (pc2 := 13) rfl rfl rfl ?_
            refine z_bipush (pc2 := 15) rfl rfl (by decide) ?_
            refine z_newI (gs := [0]) (pc2 := 17) rfl rfl (by omega) (by omega) (fun _ => True.intro) (fun T18 I18 P18 G18 w18 => ?_)
            refine z_putP (pc2 := 20) rfl rfl rfl rfl (by first | exact z_fitO _ _ | exact z_fitA _ _) rfl ((w18.1 _ (by omega)).1.trans ((w17.1 _ (by omega)).1.trans w16.2.1)) True.intro ?_
            refine z_aload_n (pc2 := 21) rfl rfl rfl ?_
            refine z_iconst (pc2 := 22) rfl rfl ?_
            refine z_newI (gs := [0]) (pc2 := 24) rfl rfl (by omega) (by omega) (fun _ => True.intro) (fun T19 I19 P19 G19 w19 => ?_)
            refine z_putP (pc2 := 27) rfl rfl rfl rfl (by first | exact z_fitO _ _ | exact z_fitA _ _) rfl ((w19.1 _ (by omega)).1.trans ((w18.1 _ (by omega)).1.trans ((w17.1 _ (by omega)).1.trans w16.2.1))) True.intro ?_
            refine z_aload_n (pc2 := 28) rfl rfl rfl ?_
            refine z_iconst (pc2 := 29) rfl rfl ?_
            refine z_putI (pc2 := 32) rfl rfl rfl rfl rfl rfl ((w19.1 _ (by omega)).1.trans ((w18.1 _ (by omega)).1.trans ((w17.1 _ (by omega)).1.trans w16.2.1))) (by omega) True.intro ?_
            refine z_aload_n (pc2 := 33) rfl rfl rfl ?_
            refine z_iconst (pc2 := 34) rfl rfl ?_
            refine z_putI (pc2 := 37) rfl rfl rfl rfl rfl rfl ((w19.1 _ (by omega)).1.trans ((w18.1 _ (by omega)).1.trans ((w17.1 _ (by omega)).1.trans w16.2.1))) (by omega) True.intro ?_
            refine z_aload_n (pc2 := 38) rfl rfl rfl ?_
            refine z_iconst (pc2 := 39) rfl rfl ?_
            refine z_putI (pc2 := 42) rfl rfl rfl rfl rfl rfl ((w19.1 _ (by omega)).1.trans ((w18.1 _ (by omega)).1.trans ((w17.1 _ (by omega)).1.trans w16.2.1))) (by omega) True.intro ?_
            refine z_aload_n (pc2 := 43) rfl rfl rfl ?_
            refine z_iconst (pc2 := 44) rfl rfl ?_
            refine z_putI (pc2 := 47) rfl rfl rfl rfl rfl rfl ((w19.1 _ (by omega)).1.trans ((w18.1 _ (by omega)).1.trans ((w17.1 _ (by omega)).1.trans w16.2.1))) (by omega) True.intro ?_
            refine z_aload_n (pc2 := 48) rfl rfl rfl ?_
            refine z_iconst (pc2 := 49) rfl rfl ?_
            refine z_putI (pc2 := 52) rfl rfl rfl rfl rfl rfl ((w19.1 _ (by omega)).1.trans ((w18.1 _ (by omega)).1.trans ((w17.1 _ (by omega)).1.trans w16.2.1))) (by omega) True.intro ?_
            refine z_aload_n (pc2 := 53) rfl rfl rfl ?_
            refine z_iload_n (pc2 := 54) rfl rfl rfl ?_
            refine z_putI (pc2 := 57) rfl rfl rfl rfl rfl rfl ((w19.1 _ (by omega)).1.trans ((w18.1 _ (by omega)).1.trans ((w17.1 _ (by omega)).1.trans w16.2.1))) (by omega) True.intro ?_
            refine z_aload_n (pc2 := 58) rfl rfl rfl ?_
            refine z_iload_n (pc2 := 59) rfl rfl rfl ?_
            refine z_putI (pc2 := 62) rfl rfl rfl rfl rfl rfl ((w19.1 _ (by omega)).1.trans ((w18.1 _ (by omega)).1.trans ((w17.1 _ (by omega)).1.trans w16.2.1))) (by omega) True.intro ?_
            refine z_aload_n (pc2 := 63) rfl rfl rfl ?_
            refine z_iload_n (pc2 := 64) rfl rfl rfl ?_
            refine z_newI (gs := [0]) (pc2 := 66) rfl rfl (by omega) (by omega) (fun _ => True.intro) (fun T20 I20 P20 G20 w20 => ?_)
            refine z_putP (pc2 := 69) rfl rfl rfl rfl (by first | exact z_fitO _ _ | exact z_fitA _ _) rfl ((w20.1 _ (by omega)).1.trans ((w19.1 _ (by omega)).1.trans ((w18.1 _ (by omega)).1.trans ((w17.1 _ (by omega)).1.trans w16.2.1)))) True.intro ?_
            refine z_aload_n (pc2 := 70) rfl rfl rfl ?_
            refine z_iload_n (pc2 := 71) rfl rfl rfl ?_
            refine z_newR (t := 3) (gs := [2]) (pc2 := 74) rfl rfl rfl rfl (by omega) (by omega) (fun _ _ => Or.inl rfl) (fun T21 I21 P21 G21 w21 => ?_)
            refine z_putP (pc2 := 77) rfl rfl rfl rfl (by first | exact z_fitO _ _ | exact z_fitA _ _) rfl ((w21.1 _ (by omega)).1.trans ((w20.1 _ (by omega)).1.trans ((w19.1 _ (by omega)).1.trans ((w18.1 _ (by omega)).1.trans ((w17.1 _ (by omega)).1.trans w16.2.1))))) True.intro ?_
            refine z_aload_n (pc2 := 78) rfl rfl rfl ?_
            refine z_getP (pc2 := 81) rfl rfl rfl rfl ((w21.1 _ (by omega)).1.trans ((w20.1 _ (by omega)).1.trans ((w19.1 _ (by omega)).1.trans ((w18.1 _ (by omega)).1.trans ((w17.1 _ (by omega)).1.trans w16.2.1))))) ?_
            intro p22 p22e p22k
            clear p22k; replace p22e : p22 = some (((((n + 1) + 1) + 1) + 1) + 1) := by rw [p22e]; simp [zU, (w17.1 (n + 1) (by omega)).2.1, (w17.1 (n + 1) (by omega)).2.2.1, (w18.1 (n + 1) (by omega)).2.1, (w18.1 (n + 1) (by omega)).2.2.1, (w19.1 (n + 1) (by omega)).2.1, (w19.1 (n + 1) (by omega)).2.2.1, (w20.1 (n + 1) (by omega)).2.1, (w20.1 (n + 1) (by omega)).2.2.1, (w21.1 (n + 1) (by omega)).2.1, (w21.1 (n + 1) (by omega)).2.2.1]
            subst p22e
            refine z_iconst (pc2 := 82) rfl rfl ?_
            refine z_callS (y2 := 269) (as := [_, _]) (rest := []) (pc2 := 85) rfl rfl rfl rfl ?_
            refine c_Arrays_fill (by omega) (fun a h1 h2 => (((zTn_n (zTn_n (zTn_n (zTn_n (zTn_n (zTn_n zTn_rf w16 (by omega)) w17 (by omega)) w18 (by omega)) w19 (by omega)) w20 (by omega)) w21 (by omega)) : zTn n _ _) a (by omega)).trans (hC a h1 h2)) (by omega) (by omega) ((w21.1 _ (by omega)).1.trans w20.2.1) (fun _ => True.intro) (fun I23 G23 f23 => ?_)
            show zB _ _ _ _ _ _ [] _ _
            refine z_aload_n (pc2 := 86) rfl rfl rfl ?_
            refine z_getP (pc2 := 89) rfl rfl rfl rfl ((w21.1 _ (by omega)).1.trans ((w20.1 _ (by omega)).1.trans ((w19.1 _ (by omega)).1.trans ((w18.1 _ (by omega)).1.trans ((w17.1 _ (by omega)).1.trans w16.2.1))))) ?_
            intro p24 p24e p24k
            clear p24k; replace p24e : p24 = some ((((n + 1) + 1) + 1) + 1) := by rw [p24e]; simp [zU, (w17.1 (n + 1) (by omega)).2.1, (w17.1 (n + 1) (by omega)).2.2.1, (w18.1 (n + 1) (by omega)).2.1, (w18.1 (n + 1) (by omega)).2.2.1, (w19.1 (n + 1) (by omega)).2.1, (w19.1 (n + 1) (by omega)).2.2.1, (w20.1 (n + 1) (by omega)).2.1, (w20.1 (n + 1) (by omega)).2.2.1, (w21.1 (n + 1) (by omega)).2.1, (w21.1 (n + 1) (by omega)).2.2.1, (fun k => f23 (n + 1) k (by omega))]
            subst p24e
            refine z_iconst (pc2 := 90) rfl rfl ?_
            refine z_callS (y2 := 269) (as := [_, _]) (rest := []) (pc2 := 93) rfl rfl rfl rfl ?_
            refine c_Arrays_fill (by omega) (fun a h1 h2 => (((zTn_n (zTn_n (zTn_n (zTn_n (zTn_n (zTn_n zTn_rf w16 (by omega)) w17 (by omega)) w18 (by omega)) w19 (by omega)) w20 (by omega)) w21 (by omega)) : zTn n _ _) a (by omega)).trans (hC a h1 h2)) (by omega) (by omega) ((w21.1 _ (by omega)).1.trans ((w20.1 _ (by omega)).1.trans w19.2.1)) (fun _ => True.intro) (fun I25 G25 f25 => ?_)
            show zB _ _ _ _ _ _ [] _ _
            refine z_ret rfl rfl ?_
            show zB _ _ _ _ _ _ [_, _, _] _ _
            refine zB_rtO (g := c) (gs := []) ((w21.1 _ (by omega)).1.trans ((w20.1 _ (by omega)).1.trans ((w19.1 _ (by omega)).1.trans ((w18.1 _ (by omega)).1.trans ((w17.1 _ (by omega)).1.trans w16.2.1))))) (zFou_I (by simp [zU, (w17.1 (n + 1) (by omega)).2.1, (w17.1 (n + 1) (by omega)).2.2.1, (w18.1 (n + 1) (by omega)).2.1, (w18.1 (n + 1) (by omega)).2.2.1, (w19.1 (n + 1) (by omega)).2.1, (w19.1 (n + 1) (by omega)).2.2.1, (w20.1 (n + 1) (by omega)).2.1, (w20.1 (n + 1) (by omega)).2.2.1, (w21.1 (n + 1) (by omega)).2.1, (w21.1 (n + 1) (by omega)).2.2.1, (fun k => f23 (n + 1) k (by omega)), (fun k => f25 (n + 1) k (by omega))]; omega) (by simp [zU, (w17.1 (n + 1) (by omega)).2.1, (w17.1 (n + 1) (by omega)).2.2.1, (w18.1 (n + 1) (by omega)).2.1, (w18.1 (n + 1) (by omega)).2.2.1, (w19.1 (n + 1) (by omega)).2.1, (w19.1 (n + 1) (by omega)).2.2.1, (w20.1 (n + 1) (by omega)).2.1, (w20.1 (n + 1) (by omega)).2.2.1, (w21.1 (n + 1) (by omega)).2.1, (w21.1 (n + 1) (by omega)).2.2.1, (fun k => f23 (n + 1) k (by omega)), (fun k => f25 (n + 1) k (by omega))]) (by simp [zU, (w17.1 (n + 1) (by omega)).2.1, (w17.1 (n + 1) (by omega)).2.2.1, (w18.1 (n + 1) (by omega)).2.1, (w18.1 (n + 1) (by omega)).2.2.1, (w19.1 (n + 1) (by omega)).2.1, (w19.1 (n + 1) (by omega)).2.2.1, (w20.1 (n + 1) (by omega)).2.1, (w20.1 (n + 1) (by omega)).2.2.1, (w21.1 (n + 1) (by omega)).2.1, (w21.1 (n + 1) (by omega)).2.2.1, (fun k => f23 (n + 1) k (by omega)), (fun k => f25 (n + 1) k (by omega))])) (zFou_P (by simp [zU, (w17.1 (n + 1) (by omega)).2.1, (w17.1 (n + 1) (by omega)).2.2.1, (w18.1 (n + 1) (by omega)).2.1, (w18.1 (n + 1) (by omega)).2.2.1, (w19.1 (n + 1) (by omega)).2.1, (w19.1 (n + 1) (by omega)).2.2.1, (w20.1 (n + 1) (by omega)).2.1, (w20.1 (n + 1) (by omega)).2.2.1, (w21.1 (n + 1) (by omega)).2.1, (w21.1 (n + 1) (by omega)).2.2.1, (fun k => f23 (n + 1) k (by omega)), (fun k => f25 (n + 1) k (by omega))]) (by simp [zU, (w17.1 (n + 1) (by omega)).2.1, (w17.1 (n + 1) (by omega)).2.2.1, (w18.1 (n + 1) (by omega)).2.1, (w18.1 (n + 1) (by omega)).2.2.1, (w19.1 (n + 1) (by omega)).2.1, (w19.1 (n + 1) (by omega)).2.2.1, (w20.1 (n + 1) (by omega)).2.1, (w20.1 (n + 1) (by omega)).2.2.1, (w21.1 (n + 1) (by omega)).2.1, (w21.1 (n + 1) (by omega)).2.2.1, (fun k => f23 (n + 1) k (by omega)), (fun k => f25 (n + 1) k (by omega))]) (by simp [zU, (w17.1 (n + 1) (by omega)).2.1, (w17.1 (n + 1) (by omega)).2.2.1, (w18.1 (n + 1) (by omega)).2.1, (w18.1 (n + 1) (by omega)).2.2.1, (w19.1 (n + 1) (by omega)).2.1, (w19.1 (n + 1) (by omega)).2.2.1, (w20.1 (n + 1) (by omega)).2.1, (w20.1 (n + 1) (by omega)).2.2.1, (w21.1 (n + 1) (by omega)).2.1, (w21.1 (n + 1) (by omega)).2.2.1, (fun k => f23 (n + 1) k (by omega)), (fun k => f25 (n + 1) k (by omega))]) (by simp [zU, (w17.1 (n + 1) (by omega)).2.1, (w17.1 (n + 1) (by omega)).2.2.1, (w18.1 (n + 1) (by omega)).2.1, (w18.1 (n + 1) (by omega)).2.2.1, (w19.1 (n + 1) (by omega)).2.1, (w19.1 (n + 1) (by omega)).2.2.1, (w20.1 (n + 1) (by omega)).2.1, (w20.1 (n + 1) (by omega)).2.2.1, (w21.1 (n + 1) (by omega)).2.1, (w21.1 (n + 1) (by omega)).2.2.1, (fun k => f23 (n + 1) k (by omega)), (fun k => f25 (n + 1) k (by omega))]) (by simp [zU, (w17.1 (n + 1) (by omega)).2.1, (w17.1 (n + 1) (by omega)).2.2.1, (w18.1 (n + 1) (by omega)).2.1, (w18.1 (n + 1) (by omega)).2.2.1, (w19.1 (n + 1) (by omega)).2.1, (w19.1 (n + 1) (by omega)).2.2.1, (w20.1 (n + 1) (by omega)).2.1, (w20.1 (n + 1) (by omega)).2.2.1, (w21.1 (n + 1) (by omega)).2.1, (w21.1 (n + 1) (by omega)).2.2.1, (fun k => f23 (n + 1) k (by omega)), (fun k => f25 (n + 1) k (by omega))]) (by omega) ((w21.1 _ (by omega)).1.trans w20.2.1) w21.2.1 ((w21.1 _ (by omega)).1.trans ((w20.1 _ (by omega)).1.trans ((w19.1 _ (by omega)).1.trans ((w18.1 _ (by omega)).1.trans w17.2.1)))) ((w21.1 _ (by omega)).1.trans ((w20.1 _ (by omega)).1.trans ((w19.1 _ (by omega)).1.trans w18.2.1))) ((w21.1 _ (by omega)).1.trans ((w20.1 _ (by omega)).1.trans w19.2.1))) (fun T26 r26 t26 m26 => ?_)
            refine z_aast (pc2 := 81) rfl rfl ((r26 _ (by omega)).trans ((w21.1 _ (by omega)).1.trans ((w20.1 _ (by omega)).1.trans ((w19.1 _ (by omega)).1.trans ((w18.1 _ (by omega)).1.trans ((w17.1 _ (by omega)).1.trans ((w16.1 _ (by omega)).1.trans tb5.2.1))))))) rfl (by omega) (by omega) (by omega) (fun b hb => by cases hb; rw [t26]; exact ⟨_, rfl, rfl⟩) (Or.inr ⟨_, rfl, by omega, _, t26, by omega⟩) ?_
            refine z_aload_n (pc2 := 82) rfl rfl rfl ?_
            refine z_iconst (pc2 := 83) rfl rfl ?_
            refine z_callV (y2 := 145) (as := [_]) (rest := []) (pc2 := 86) rfl rfl rfl rfl ((r26 _ (by omega)).trans ((w21.1 _ (by omega)).1.trans ((w20.1 _ (by omega)).1.trans ((w19.1 _ (by omega)).1.trans ((w18.1 _ (by omega)).1.trans ((w17.1 _ (by omega)).1.trans ((w16.1 _ (by omega)).1.trans t1))))))) rfl ?_
            refine z_inl ?_
            refine z_lv (lv2 := [(0, _), (1, _)]) ⟨rfl, rfl, trivial⟩ ?_
            refine z_aload_n (pc2 := 1) rfl rfl rfl ?_
            refine z_getP (pc2 := 4) rfl rfl rfl rfl ((r26 _ (by omega)).trans ((w21.1 _ (by omega)).1.trans ((w20.1 _ (by omega)).1.trans ((w19.1 _ (by omega)).1.trans ((w18.1 _ (by omega)).1.trans ((w17.1 _ (by omega)).1.trans ((w16.1 _ (by omega)).1.trans t1))))))) ?_
            intro p27 p27e p27k
            obtain ⟨b28, rfl, hb28⟩ := zHere p27k
            have tb28 := zRm_t hC hb28
            refine z_iconst (pc2 := 5) rfl rfl ?_
            refine z_putZ (pc2 := 8) rfl rfl rfl rfl rfl rfl ((r26 _ (by omega)).trans ((w21.1 _ (by omega)).1.trans ((w20.1 _ (by omega)).1.trans ((w19.1 _ (by omega)).1.trans ((w18.1 _ (by omega)).1.trans ((w17.1 _ (by omega)).1.trans ((w16.1 _ (by omega)).1.trans tb28.1))))))) (by omega) True.intro ?_
            refine z_aload_n (pc2 := 9) rfl rfl rfl ?_
            refine z_iload_n (pc2 := 10) rfl rfl rfl ?_
            refine z_callV (y2 := 144) (as := [_]) (rest := []) (pc2 := 13) rfl rfl rfl rfl ((r26 _ (by omega)).trans ((w21.1 _ (by omega)).1.trans ((w20.1 _ (by omega)).1.trans ((w19.1 _ (by omega)).1.trans ((w18.1 _ (by omega)).1.trans ((w17.1 _ (by omega)).1.trans ((w16.1 _ (by omega)).1.trans t1))))))) rfl ?_
            refine z_inl ?_
            refine z_lv (lv2 := [(0, _), (1, _)]) ⟨rfl, rfl, trivial⟩ ?_
            refine z_aload_n (pc2 := 1) rfl rfl rfl ?_
            refine z_iconst (pc2 := 2) rfl rfl ?_
            refine z_putI (pc2 := 5) rfl rfl rfl rfl rfl rfl ((r26 _ (by omega)).trans ((w21.1 _ (by omega)).1.trans ((w20.1 _ (by omega)).1.trans ((w19.1 _ (by omega)).1.trans ((w18.1 _ (by omega)).1.trans ((w17.1 _ (by omega)).1.trans ((w16.1 _ (by omega)).1.trans t1))))))) (by omega) True.intro ?_
            refine z_iload_n (pc2 := 6) rfl rfl rfl ?_
            refine z_iret rfl rfl ?_
            show zB _ _ _ _ _ _ [_] _ _
            refine z_iret rfl rfl ?_
            show zB _ _ _ _ _ _ [_] _ _
            refine z_iret rfl rfl ?_
            exact hK _ _ _ _ _ _ _ (zCP_q ⟨(zTn_r (zTn_n (zTn_n (zTn_n (zTn_n (zTn_n (zTn_n zTn_rf w16 (by omega)) w17 (by omega)) w18 (by omega)) w19 (by omega)) w20 (by omega)) w21 (by omega)) r26 (by omega)), (zQi_u (zQi_u (zQi_t (zQi_t (zQi_n (zQi_n (zQi_u (zQi_u (zQi_u (zQi_u (zQi_u (zQi_u (zQi_u (zQi_n (zQi_n (zQi_n (zQi_n zQi_rf w16 (by omega)) w17 (by omega)) w18 (by omega)) w19 (by omega)) (by unfold zIr; omega)) (by unfold zIr; omega)) (by unfold zIr; omega)) (by unfold zIr; omega)) (by unfold zIr; omega)) (by unfold zIr; omega)) (by unfold zIr; omega)) w20 (by omega)) w21 (by omega)) (fun c k hk => f23 c k (fun e => by unfold zIr at hk; omega))) (fun c k hk => f25 c k (fun e => by unfold zIr at hk; omega))) (by unfold zIr; omega)) (by unfold zIr; omega)), (zQp_u (zQp_u (zQp_n (zQp_u (zQp_n (zQp_u (zQp_n (zQp_u (zQp_n (zQp_u (zQp_n (zQp_n zQp_rf w16 (by omega)) w17 (by omega)) (by unfold zPr; omega)) w18 (by omega)) (by unfold zPr; omega)) w19 (by omega)) (by unfold zPr; omega)) w20 (by omega)) (by unfold zPr; omega)) w21 (by omega)) (by unfold zPr; omega)) (by unfold zPr; omega))⟩ (zTm_tr (zTm_tr (zTm_tr (zTm_tr (zTm_tr (zTm_tr (zTm_tr (zTm_rf _) (zTk_m w16.2.2.2.2)) (zTk_m w17.2.2.2.2)) (zTk_m w18.2.2.2.2)) (zTk_m w19.2.2.2.2)) (zTk_m w20.2.2.2.2)) (zTk_m w21.2.2.2.2)) m26)) (by omega)
          ·
            refine z_aload_n (pc2 := 57) rfl rfl rfl ?_
            refine z_bipush (pc2 := 59) rfl rfl (by decide) ?_
            refine z_callV (y2 := 143) (as := [_]) (rest := []) (pc2 := 62) rfl rfl rfl rfl t1 rfl ?_
            refine z_inl ?_
            refine z_lv (lv2 := [(0, _), (1, _)]) ⟨rfl, rfl, trivial⟩ ?_
            refine z_aload_n (pc2 := 1) rfl rfl rfl ?_
            refine z_dup (pc2 := 2) rfl rfl rfl ?_
            refine z_getI (pc2 := 5) 0 rfl rfl rfl rfl rfl t1 ?_
            intro v29 e29 r29 k29
            clear k29
            clear e29
            refine z_iconst (pc2 := 6) rfl rfl ?_
            refine z_iadd (pc2 := 7) rfl rfl ?_
            refine z_putI_any (pc2 := 10) rfl rfl rfl rfl rfl rfl t1 (fun _ _ => True.intro) (fun u30 u30r => ?_)
            refine z_aload_n (pc2 := 11) rfl rfl rfl ?_
            refine z_iload_n (pc2 := 12) rfl rfl rfl ?_
            refine z_putI (pc2 := 15) rfl rfl rfl rfl rfl rfl t1 (by omega) True.intro ?_
            refine z_iload_n (pc2 := 16) rfl rfl rfl ?_
            refine z_iret rfl rfl ?_
            show zB _ _ _ _ _ _ [_] _ _
            refine z_iret rfl rfl ?_
            exact hK _ _ _ _ _ _ _ (zCP_q ⟨zTn_rf, (zQi_u (zQi_u zQi_rf (by unfold zIr; omega)) (by unfold zIr; omega)), zQp_rf⟩ (zTm_rf _)) (by omega)
        ·
          refine z_iconst (pc2 := 11) rfl rfl ?_
          refine z_goto (pc2 := 15) rfl rfl ?_
          refine z_zret rfl rfl (by omega) ?_
          show zB _ _ _ _ _ _ [_] _ _
          refine z_if_eq (t := 52) (pc2 := 45) rfl rfl rfl (by omega) (fun c31 => by exfalso; omega) (fun c31 => ?_)
          refine z_aload_n (pc2 := 46) rfl rfl rfl ?_
          refine z_bipush (pc2 := 48) rfl rfl (by decide) ?_
          refine z_callV (y2 := 142) (as := [_]) (rest := []) (pc2 := 51) rfl rfl rfl rfl t1 rfl ?_
          refine z_inl ?_
          refine z_lv (lv2 := [(0, _), (1, _)]) ⟨rfl, rfl, trivial⟩ ?_
          refine z_aload_n (pc2 := 1) rfl rfl rfl ?_
          refine z_iload_n (pc2 := 2) rfl rfl rfl ?_
          refine z_putI (pc2 := 5) rfl rfl rfl rfl rfl rfl t1 (by omega) True.intro ?_
          refine z_iload_n (pc2 := 6) rfl rfl rfl ?_
          refine z_iret rfl rfl ?_
          show zB _ _ _ _ _ _ [_] _ _
          refine z_iret rfl rfl ?_
          exact hK _ _ _ _ _ _ _ (zCP_q ⟨zTn_rf, (zQi_u zQi_rf (by unfold zIr; omega)), zQp_rf⟩ (zTm_rf _)) (by omega)
      ·
        replace tq8 : _ = ((1, 3, [n9]) : zT) := tq8
        refine zB_le tq8 trivial (fun q8l => ?_)
        refine z_ifnull (t := 38) (pc2 := 31) rfl rfl rfl (fun h => by cases h) (fun _ _ => ?_)
        refine z_aload_n (pc2 := 32) rfl rfl rfl ?_
        refine z_bipush (pc2 := 34) rfl rfl (by decide) ?_
        refine z_callV (y2 := 142) (as := [_]) (rest := []) (pc2 := 37) rfl rfl rfl rfl t1 rfl ?_
        refine z_inl ?_
        refine z_lv (lv2 := [(0, _), (1, _)]) ⟨rfl, rfl, trivial⟩ ?_
        refine z_aload_n (pc2 := 1) rfl rfl rfl ?_
        refine z_iload_n (pc2 := 2) rfl rfl rfl ?_
        refine z_putI (pc2 := 5) rfl rfl rfl rfl rfl rfl t1 (by omega) True.intro ?_
        refine z_iload_n (pc2 := 6) rfl rfl rfl ?_
        refine z_iret rfl rfl ?_
        show zB _ _ _ _ _ _ [_] _ _
        refine z_iret rfl rfl ?_
        exact hK _ _ _ _ _ _ _ (zCP_q ⟨zTn_rf, (zQi_u zQi_rf (by unfold zIr; omega)), zQp_rf⟩ (zTm_rf _)) (by omega)
    ·
      refine z_aload_n (pc2 := 14) rfl rfl rfl ?_
      refine z_iconst (pc2 := 15) rfl rfl ?_
      refine z_callV (y2 := 142) (as := [_]) (rest := []) (pc2 := 18) rfl rfl rfl rfl t1 rfl ?_
      refine z_inl ?_
      refine z_lv (lv2 := [(0, _), (1, _)]) ⟨rfl, rfl, trivial⟩ ?_
      refine z_aload_n (pc2 := 1) rfl rfl rfl ?_
      refine z_iload_n (pc2 := 2) rfl rfl rfl ?_
      refine z_putI (pc2 := 5) rfl rfl rfl rfl rfl rfl t1 (by omega) True.intro ?_
      refine z_iload_n (pc2 := 6) rfl rfl rfl ?_
      refine z_iret rfl rfl ?_
      show zB _ _ _ _ _ _ [_] _ _
      refine z_iret rfl rfl ?_
      exact hK _ _ _ _ _ _ _ (zCP_q ⟨zTn_rf, (zQi_u zQi_rf (by unfold zIr; omega)), zQp_rf⟩ (zTm_rf _)) (by omega)
