/-! the class: what is told of lines, pages, formes -/
set_option maxHeartbeats 8000000 in
theorem c_TypeRoom_line {L : Nat} {xs : Nat → Int32} {n sl : Nat} {T : Nat → zT} {I : Nat → Nat → Int} {P : Nat → Nat → Option Nat} {G : Nat → Nat → Int} {K : List zV → zH → Prop} {a c : Int} (hn : 90 ≤ n) (hC : ∀ a, 1 ≤ a → a ≤ 55 → T a = zFixC a) (ha : zR a) (hc : zR c) (hcr : zCR T I P) (hK : ∀ e n2 sl2 T2 I2 P2 G2, zCP n T T2 I I2 P P2 → (n ≤ n2 ∧ n2 ≤ n + 0 ∧ sl2 ≤ sl + 0) → K [.inl e] (n2, sl2, T2, I2, P2, G2)) : zX zMd L xs 128 [.inr (.inl (some 1)), .inl a, .inl c] (n, sl, T, I, P, G) K := by
  have t1 : T 1 = (1, 11, [1]) := hC 1 (by decide) (by decide)
  refine z_inl ?_
  refine z_lv (lv2 := [(0, _), (1, _), (2, _)]) ⟨rfl, rfl, rfl, trivial⟩ ?_
  refine z_aload_n (pc2 := 1) rfl rfl rfl ?_
  refine z_iload_n (pc2 := 2) rfl rfl rfl ?_
  refine z_callV (y2 := 149) (as := [_]) (rest := []) (pc2 := 5) rfl rfl rfl rfl t1 rfl ?_
  refine z_inl ?_
  refine z_lv (lv2 := [(0, _), (1, _)]) ⟨rfl, rfl, trivial⟩ ?_
  refine z_iload_n (pc2 := 1) rfl rfl rfl ?_
  refine z_iconst (pc2 := 2) rfl rfl ?_
  refine z_aload_n (pc2 := 3) rfl rfl rfl ?_
  refine z_getP (pc2 := 6) rfl rfl rfl rfl t1 ?_
  intro p1 p1e p1k
  obtain ⟨b2, rfl, hb2⟩ := zHere p1k
  have tb2 := zRm_t hC hb2
  refine z_getP (pc2 := 9) rfl rfl rfl rfl tb2.1 ?_
  intro p3 p3e p3k
  obtain ⟨x4, rfl, hx4⟩ := zFloorOf p3k
  have ix4 : x4 = 23 ∨ x4 = 30 ∨ x4 = 42 ∨ x4 = 49 := by omega
  have tx4 := zFl_t hC ix4
  refine z_getI (pc2 := 12) 0 rfl rfl rfl rfl rfl tx4.1 ?_
  intro v5 e5 r5 k5
  replace k5 : (0 : Int) ≤ v5 ∧ v5 ≤ 89 := k5
  refine z_iconst (pc2 := 13) rfl rfl ?_
  refine z_isub (pc2 := 14) rfl rfl ?_
  refine z_callS (y2 := 155) (as := [_, _, _]) (rest := []) (pc2 := 17) rfl rfl rfl rfl ?_
  refine c_TypeRoom_isOutside (by omega) (by omega) (by omega) (fun e6 e6a e6b e6c => ?_)
  show zB _ _ _ _ _ _ [_] _ _
  refine z_zret rfl rfl (by omega) ?_
  show zB _ _ _ _ _ _ [_] _ _
  refine z_if_eq (t := 12) (pc2 := 8) rfl rfl rfl (by omega) (fun c7 => ?_) (fun c7 => ?_)
  ·
    refine z_aload_n (pc2 := 13) rfl rfl rfl ?_
    refine z_getP (pc2 := 16) rfl rfl rfl rfl t1 ?_
    intro p8 p8e p8k
    clear p8k; replace p8e : p8 = some b2 := by rw [p8e]; first | exact p1e | exact Eq.symm p1e | (simp [zU]; first | done | exact p1e | exact Eq.symm p1e | omega)
    subst p8e
    refine z_getP (pc2 := 19) rfl rfl rfl rfl tb2.1 ?_
    intro p9 p9e p9k
    clear p9k; replace p9e : p9 = some x4 := by rw [p9e]; first | exact p3e | exact Eq.symm p3e | (simp [zU]; first | done | exact p3e | exact Eq.symm p3e | omega)
    subst p9e
    refine z_getP (pc2 := 22) rfl rfl rfl rfl tx4.1 ?_
    intro p10 p10e p10k
    replace p10k : p10 = some (x4 + 4) := p10k; clear p10e; subst p10k
    refine z_iload_n (pc2 := 23) rfl rfl rfl ?_
    refine z_aald (pc2 := 24) rfl rfl tx4.2.2.2.2.1 rfl (by omega) (by omega) (by omega) ?_
    intro p11 p11e p11k
    rcases p11k with rfl | ⟨q12, rfl, q129, tq12⟩
    ·
      obtain ⟨q9, h9⟩ := (hcr.2.2 _ ix4).1 (a).toNat (by omega); rw [← p11e] at h9; cases h9
    ·
      replace tq12 : _ = ((1, 4, [1]) : zT) := tq12
      refine zB_le tq12 trivial (fun q12l => ?_)
      refine z_iload_n (pc2 := 25) rfl rfl rfl ?_
      refine z_callV (y2 := 49) (as := [_]) (rest := []) (pc2 := 28) rfl rfl rfl rfl tq12 rfl ?_
      refine z_inl ?_
      refine z_lv (lv2 := [(0, _), (1, _)]) ⟨rfl, rfl, trivial⟩ ?_
      refine z_iload_n (pc2 := 1) rfl rfl rfl ?_
      refine z_tsw (td := 126) rfl rfl (by omega) (fun c13 => ?_) (fun j c13j c13h => ?_)
      ·
        refine z_iconst (pc2 := 127) rfl rfl ?_
        refine z_iret rfl rfl ?_
        show zB _ _ _ _ _ _ [_] _ _
        refine z_iret rfl rfl ?_
        exact hK _ _ _ _ _ _ _ (zCP_q ⟨zTn_rf, zQi_rf, zQp_rf⟩ (zTm_rf _)) (by omega)
      ·
        have c13t : j = 0 ∨ j = 1 ∨ j = 2 ∨ j = 3 ∨ j = 4 ∨ j = 5 ∨ j = 6 ∨ j = 7 ∨ j = 8 ∨ j = 9 := by omega
        rcases c13t with rfl | rfl | rfl | rfl | rfl | rfl | rfl | rfl | rfl | rfl
        ·
          refine ⟨_, 56, rfl, rfl, ?_⟩
          refine z_aload_n (pc2 := 57) rfl rfl rfl ?_
          refine z_getI (pc2 := 60) 0 rfl rfl rfl rfl rfl tq12 ?_
          intro v14 e14 r14 k14
          clear k14
          clear e14
          refine z_iret rfl rfl ?_
          show zB _ _ _ _ _ _ [_] _ _
          refine z_iret rfl rfl ?_
          exact hK _ _ _ _ _ _ _ (zCP_q ⟨zTn_rf, zQi_rf, zQp_rf⟩ (zTm_rf _)) (by omega)
        ·
          refine ⟨_, 61, rfl, rfl, ?_⟩
          refine z_aload_n (pc2 := 62) rfl rfl rfl ?_
          refine z_getP (pc2 := 65) rfl rfl rfl rfl tq12 ?_
          intro p15 p15e p15k
          obtain ⟨q16, rfl, q169, n17, tq16, q16b⟩ := p15k
          replace tq16 : _ = ((1, 3, [n17]) : zT) := tq16
          refine zB_le tq16 trivial (fun q16l => ?_)
          refine z_getI (pc2 := 68) 0 rfl rfl rfl rfl rfl tq16 ?_
          intro v18 e18 r18 k18
          replace k18 : (0 : Int) ≤ v18 ∧ v18 ≤ 3 := k18
          clear e18
          refine z_iret rfl rfl ?_
          show zB _ _ _ _ _ _ [_] _ _
          refine z_iret rfl rfl ?_
          exact hK _ _ _ _ _ _ _ (zCP_q ⟨zTn_rf, zQi_rf, zQp_rf⟩ (zTm_rf _)) (by omega)
        ·
          refine ⟨_, 69, rfl, rfl, ?_⟩
          refine z_aload_n (pc2 := 70) rfl rfl rfl ?_
          refine z_getI (pc2 := 73) 0 rfl rfl rfl rfl rfl tq12 ?_
          intro v19 e19 r19 k19
          clear k19
          clear e19
          refine z_iret rfl rfl ?_
          show zB _ _ _ _ _ _ [_] _ _
          refine z_iret rfl rfl ?_
          exact hK _ _ _ _ _ _ _ (zCP_q ⟨zTn_rf, zQi_rf, zQp_rf⟩ (zTm_rf _)) (by omega)
        ·
          refine ⟨_, 74, rfl, rfl, ?_⟩
          refine z_aload_n (pc2 := 75) rfl rfl rfl ?_
          refine z_getP (pc2 := 78) rfl rfl rfl rfl tq12 ?_
          intro p20 p20e p20k
          obtain ⟨q21, rfl, q219, m22, tq21, q21b⟩ := p20k
          replace tq21 : _ = ((2, 9, [(m22), 2]) : zT) := tq21
          refine zB_le tq21 trivial (fun q21l => ?_)
          refine z_alen (pc2 := 79) rfl rfl tq21 rfl (by omega) ?_
          refine z_iret rfl rfl ?_
          show zB _ _ _ _ _ _ [_] _ _
          refine z_iret rfl rfl ?_
          exact hK _ _ _ _ _ _ _ (zCP_q ⟨zTn_rf, zQi_rf, zQp_rf⟩ (zTm_rf _)) (by omega)
        ·
          refine ⟨_, 80, rfl, rfl, ?_⟩
          refine z_aload_n (pc2 := 81) rfl rfl rfl ?_
          refine z_getI (pc2 := 84) 0 rfl rfl rfl rfl rfl tq12 ?_
          intro v23 e23 r23 k23
          clear k23
          clear e23
          refine z_iret rfl rfl ?_
          show zB _ _ _ _ _ _ [_] _ _
          refine z_iret rfl rfl ?_
          exact hK _ _ _ _ _ _ _ (zCP_q ⟨zTn_rf, zQi_rf, zQp_rf⟩ (zTm_rf _)) (by omega)
        ·
          refine ⟨_, 85, rfl, rfl, ?_⟩
          refine z_aload_n (pc2 := 86) rfl rfl rfl ?_
          refine z_getI (pc2 := 89) 0 rfl rfl rfl rfl rfl tq12 ?_
          intro v24 e24 r24 k24
          clear k24
          clear e24
          refine z_iret rfl rfl ?_
          show zB _ _ _ _ _ _ [_] _ _
          refine z_iret rfl rfl ?_
          exact hK _ _ _ _ _ _ _ (zCP_q ⟨zTn_rf, zQi_rf, zQp_rf⟩ (zTm_rf _)) (by omega)
        ·
          refine ⟨_, 90, rfl, rfl, ?_⟩
          refine z_aload_n (pc2 := 91) rfl rfl rfl ?_
          refine z_getI (pc2 := 94) 0 rfl rfl rfl rfl rfl tq12 ?_
          intro v25 e25 r25 k25
          clear k25
          clear e25
          refine z_iret rfl rfl ?_
          show zB _ _ _ _ _ _ [_] _ _
          refine z_iret rfl rfl ?_
          exact hK _ _ _ _ _ _ _ (zCP_q ⟨zTn_rf, zQi_rf, zQp_rf⟩ (zTm_rf _)) (by omega)
        ·
          refine ⟨_, 95, rfl, rfl, ?_⟩
          refine z_aload_n (pc2 := 96) rfl rfl rfl ?_
          refine z_getI (pc2 := 99) 2 rfl rfl rfl rfl rfl tq12 ?_
          intro v26 e26 r26 k26
          clear k26
          clear e26
          refine z_if_eq (t := 106) (pc2 := 102) rfl rfl rfl (by omega) (fun c27 => ?_) (fun c27 => ?_)
          ·
            refine z_iconst (pc2 := 107) rfl rfl ?_
            refine z_iret rfl rfl ?_
            show zB _ _ _ _ _ _ [_] _ _
            refine z_iret rfl rfl ?_
            exact hK _ _ _ _ _ _ _ (zCP_q ⟨zTn_rf, zQi_rf, zQp_rf⟩ (zTm_rf _)) (by omega)
          ·
            refine z_iconst (pc2 := 103) rfl rfl ?_
            refine z_goto (pc2 := 107) rfl rfl ?_
            refine z_iret rfl rfl ?_
            show zB _ _ _ _ _ _ [_] _ _
            refine z_iret rfl rfl ?_
            exact hK _ _ _ _ _ _ _ (zCP_q ⟨zTn_rf, zQi_rf, zQp_rf⟩ (zTm_rf _)) (by omega)
        ·
          refine ⟨_, 108, rfl, rfl, ?_⟩
          refine z_aload_n (pc2 := 109) rfl rfl rfl ?_
          refine z_callV (y2 := 46) (as := []) (rest := []) (pc2 := 112) rfl rfl rfl rfl tq12 rfl ?_
          refine z_inl ?_
          refine z_lv (lv2 := [(0, _)]) ⟨rfl, trivial⟩ ?_
          refine z_aload_n (pc2 := 1) rfl rfl rfl ?_
          refine z_getI (pc2 := 4) 0 rfl rfl rfl rfl rfl tq12 ?_
          intro v28 e28 r28 k28
          clear k28
          clear e28
          refine z_aload_n (pc2 := 5) rfl rfl rfl ?_
          refine z_getI (pc2 := 8) 0 rfl rfl rfl rfl rfl tq12 ?_
          intro v29 e29 r29 k29
          clear k29
          clear e29
          refine z_iconst (pc2 := 9) rfl rfl ?_
          refine z_isub (pc2 := 10) rfl rfl ?_
          refine z_icmp_any (t := 17) (pc2 := 13) rfl rfl rfl ?_ ?_
          ·
            refine z_iconst (pc2 := 18) rfl rfl ?_
            refine z_zret rfl rfl (by omega) ?_
            show zB _ _ _ _ _ _ [_] _ _
            refine z_if_eq (t := 119) (pc2 := 115) rfl rfl rfl (by omega) (fun c30 => ?_) (fun c30 => by exfalso; omega)
            refine z_iconst (pc2 := 120) rfl rfl ?_
            refine z_iret rfl rfl ?_
            show zB _ _ _ _ _ _ [_] _ _
            refine z_iret rfl rfl ?_
            exact hK _ _ _ _ _ _ _ (zCP_q ⟨zTn_rf, zQi_rf, zQp_rf⟩ (zTm_rf _)) (by omega)
          ·
            refine z_iconst (pc2 := 14) rfl rfl ?_
            refine z_goto (pc2 := 18) rfl rfl ?_
            refine z_zret rfl rfl (by omega) ?_
            show zB _ _ _ _ _ _ [_] _ _
            refine z_if_eq (t := 119) (pc2 := 115) rfl rfl rfl (by omega) (fun c31 => by exfalso; omega) (fun c31 => ?_)
            refine z_iconst (pc2 := 116) rfl rfl ?_
            refine z_goto (pc2 := 120) rfl rfl ?_
            refine z_iret rfl rfl ?_
            show zB _ _ _ _ _ _ [_] _ _
            refine z_iret rfl rfl ?_
            exact hK _ _ _ _ _ _ _ (zCP_q ⟨zTn_rf, zQi_rf, zQp_rf⟩ (zTm_rf _)) (by omega)
        ·
          refine ⟨_, 121, rfl, rfl, ?_⟩
          refine z_aload_n (pc2 := 122) rfl rfl rfl ?_
          refine z_getI (pc2 := 125) 0 rfl rfl rfl rfl rfl tq12 ?_
          intro v32 e32 r32 k32
          clear k32
          clear e32
          refine z_iret rfl rfl ?_
          show zB _ _ _ _ _ _ [_] _ _
          refine z_iret rfl rfl ?_
          exact hK _ _ _ _ _ _ _ (zCP_q ⟨zTn_rf, zQi_rf, zQp_rf⟩ (zTm_rf _)) (by omega)
  ·
    refine z_iconst (pc2 := 9) rfl rfl ?_
    refine z_goto (pc2 := 28) rfl rfl ?_
    refine z_iret rfl rfl ?_
    exact hK _ _ _ _ _ _ _ (zCP_q ⟨zTn_rf, zQi_rf, zQp_rf⟩ (zTm_rf _)) (by omega)
set_option maxHeartbeats 8000000 in
theorem c_TypeRoom_sortOf {L : Nat} {xs : Nat → Int32} {n sl : Nat} {T : Nat → zT} {I : Nat → Nat → Int} {P : Nat → Nat → Option Nat} {G : Nat → Nat → Int} {K : List zV → zH → Prop} {a c d : Int} (hn : 90 ≤ n) (hC : ∀ a, 1 ≤ a → a ≤ 55 → T a = zFixC a) (ha : zR a) (hc : zR c) (hd : zR d) (hcr : zCR T I P) (hK : ∀ e n2 sl2 T2 I2 P2 G2, zCP n T T2 I I2 P P2 → (n ≤ n2 ∧ n2 ≤ n + 0 ∧ sl2 ≤ sl + 0) → K [.inl e] (n2, sl2, T2, I2, P2, G2)) : zX zMd L xs 129 [.inr (.inl (some 1)), .inl a, .inl c, .inl d] (n, sl, T, I, P, G) K := by
  have t1 : T 1 = (1, 11, [1]) := hC 1 (by decide) (by decide)
  refine z_inl ?_
  refine z_lv (lv2 := [(0, _), (1, _), (2, _), (3, _)]) ⟨rfl, rfl, rfl, rfl, trivial⟩ ?_
  refine z_aload_n (pc2 := 1) rfl rfl rfl ?_
  refine z_iload_n (pc2 := 2) rfl rfl rfl ?_
  refine z_callV (y2 := 149) (as := [_]) (rest := []) (pc2 := 5) rfl rfl rfl rfl t1 rfl ?_
  refine z_inl ?_
  refine z_lv (lv2 := [(0, _), (1, _)]) ⟨rfl, rfl, trivial⟩ ?_
  refine z_iload_n (pc2 := 1) rfl rfl rfl ?_
  refine z_iconst (pc2 := 2) rfl rfl ?_
  refine z_aload_n (pc2 := 3) rfl rfl rfl ?_
  refine z_getP (pc2 := 6) rfl rfl rfl rfl t1 ?_
  intro p1 p1e p1k
  obtain ⟨b2, rfl, hb2⟩ := zHere p1k
  have tb2 := zRm_t hC hb2
  refine z_getP (pc2 := 9) rfl rfl rfl rfl tb2.1 ?_
  intro p3 p3e p3k
  obtain ⟨x4, rfl, hx4⟩ := zFloorOf p3k
  have ix4 : x4 = 23 ∨ x4 = 30 ∨ x4 = 42 ∨ x4 = 49 := by omega
  have tx4 := zFl_t hC ix4
  refine z_getI (pc2 := 12) 0 rfl rfl rfl rfl rfl tx4.1 ?_
  intro v5 e5 r5 k5
  replace k5 : (0 : Int) ≤ v5 ∧ v5 ≤ 89 := k5
  refine z_iconst (pc2 := 13) rfl rfl ?_
  refine z_isub (pc2 := 14) rfl rfl ?_
  refine z_callS (y2 := 155) (as := [_, _, _]) (rest := []) (pc2 := 17) rfl rfl rfl rfl ?_
  refine c_TypeRoom_isOutside (by omega) (by omega) (by omega) (fun e6 e6a e6b e6c => ?_)
  show zB _ _ _ _ _ _ [_] _ _
  refine z_zret rfl rfl (by omega) ?_
  show zB _ _ _ _ _ _ [_] _ _
  refine z_if_eq (t := 10) (pc2 := 8) rfl rfl rfl (by omega) (fun c7 => ?_) (fun c7 => ?_)
  ·
    refine z_aload_n (pc2 := 11) rfl rfl rfl ?_
    refine z_getP (pc2 := 14) rfl rfl rfl rfl t1 ?_
    intro p8 p8e p8k
    clear p8k; replace p8e : p8 = some b2 := by rw [p8e]; first | exact p1e | exact Eq.symm p1e | (simp [zU]; first | done | exact p1e | exact Eq.symm p1e | omega)
    subst p8e
    refine z_getP (pc2 := 17) rfl rfl rfl rfl tb2.1 ?_
    intro p9 p9e p9k
    clear p9k; replace p9e : p9 = some x4 := by rw [p9e]; first | exact p3e | exact Eq.symm p3e | (simp [zU]; first | done | exact p3e | exact Eq.symm p3e | omega)
    subst p9e
    refine z_getP (pc2 := 20) rfl rfl rfl rfl tx4.1 ?_
    intro p10 p10e p10k
    replace p10k : p10 = some (x4 + 4) := p10k; clear p10e; subst p10k
    refine z_iload_n (pc2 := 21) rfl rfl rfl ?_
    refine z_aald (pc2 := 22) rfl rfl tx4.2.2.2.2.1 rfl (by omega) (by omega) (by omega) ?_
    intro p11 p11e p11k
    rcases p11k with rfl | ⟨q12, rfl, q129, tq12⟩
    ·
      obtain ⟨q9, h9⟩ := (hcr.2.2 _ ix4).1 (a).toNat (by omega); rw [← p11e] at h9; cases h9
    ·
      replace tq12 : _ = ((1, 4, [1]) : zT) := tq12
      refine zB_le tq12 trivial (fun q12l => ?_)
      refine z_getP (pc2 := 25) rfl rfl rfl rfl tq12 ?_
      intro p13 p13e p13k
      obtain ⟨q14, rfl, q149, m15, tq14, q14b⟩ := p13k
      replace tq14 : _ = ((2, 9, [(m15), 2]) : zT) := tq14
      refine zB_le tq14 trivial (fun q14l => ?_)
      refine z_astore (lv2 := [(4, _), (0, _), (1, _), (2, _), (3, _)]) (pc2 := 27) rfl rfl rfl rfl ?_
      refine z_iload_n (pc2 := 28) rfl rfl rfl ?_
      refine z_iconst (pc2 := 29) rfl rfl ?_
      refine z_aload (pc2 := 31) rfl rfl rfl ?_
      refine z_alen (pc2 := 32) rfl rfl tq14 rfl (by omega) ?_
      refine z_iconst (pc2 := 33) rfl rfl ?_
      refine z_isub (pc2 := 34) rfl rfl ?_
      refine z_callS (y2 := 155) (as := [_, _, _]) (rest := []) (pc2 := 37) rfl rfl rfl rfl ?_
      refine c_TypeRoom_isOutside (by omega) (by omega) (by omega) (fun e16 e16a e16b e16c => ?_)
      show zB _ _ _ _ _ _ [_] _ _
      refine z_if_eq (t := 42) (pc2 := 40) rfl rfl rfl (by omega) (fun c17 => ?_) (fun c17 => ?_)
      ·
        refine z_iload_n (pc2 := 43) rfl rfl rfl ?_
        refine z_tsw (td := 92) rfl rfl (by omega) (fun c18 => ?_) (fun j c18j c18h => ?_)
        ·
          refine z_iconst (pc2 := 93) rfl rfl ?_
          refine z_iret rfl rfl ?_
          exact hK _ _ _ _ _ _ _ (zCP_q ⟨zTn_rf, zQi_rf, zQp_rf⟩ (zTm_rf _)) (by omega)
        ·
          have c18t : j = 0 ∨ j = 1 ∨ j = 2 := by omega
          rcases c18t with rfl | rfl | rfl
          ·
            refine ⟨_, 68, rfl, rfl, ?_⟩
            refine z_aload (pc2 := 70) rfl rfl rfl ?_
            refine z_iload_n (pc2 := 71) rfl rfl rfl ?_
            refine z_aald (pc2 := 72) rfl rfl tq14 rfl (by omega) (by omega) (by omega) ?_
            intro p19 p19e p19k
            obtain ⟨q20, rfl, q209, d21, n22, tq20, q20c, q20b⟩ := p19k (by omega)
            replace tq20 : _ = ((1, 9, [1, d21, n22]) : zT) := tq20
            refine zB_le tq20 trivial (fun q20l => ?_)
            refine z_getI (pc2 := 75) 0 rfl rfl rfl rfl rfl tq20 ?_
            intro v23 e23 r23 k23
            replace k23 : d21 = v23 := Eq.symm k23; clear r23 e23; subst k23
            refine z_iret rfl rfl ?_
            exact hK _ _ _ _ _ _ _ (zCP_q ⟨zTn_rf, zQi_rf, zQp_rf⟩ (zTm_rf _)) (by omega)
          ·
            refine ⟨_, 76, rfl, rfl, ?_⟩
            refine z_aload (pc2 := 78) rfl rfl rfl ?_
            refine z_iload_n (pc2 := 79) rfl rfl rfl ?_
            refine z_aald (pc2 := 80) rfl rfl tq14 rfl (by omega) (by omega) (by omega) ?_
            intro p24 p24e p24k
            obtain ⟨q25, rfl, q259, d26, n27, tq25, q25c, q25b⟩ := p24k (by omega)
            replace tq25 : _ = ((1, 9, [1, d26, n27]) : zT) := tq25
            refine zB_le tq25 trivial (fun q25l => ?_)
            refine z_callV (y2 := 89) (as := []) (rest := []) (pc2 := 83) rfl rfl rfl rfl tq25 rfl ?_
            refine z_inl ?_
            refine z_lv (lv2 := [(0, _)]) ⟨rfl, trivial⟩ ?_
            refine z_aload_n (pc2 := 1) rfl rfl rfl ?_
            refine z_getI (pc2 := 4) 0 rfl rfl rfl rfl rfl tq25 ?_
            intro v28 e28 r28 k28
            replace k28 : d26 = v28 := Eq.symm k28; clear r28 e28; subst k28
            refine z_iconst (pc2 := 5) rfl rfl ?_
            refine z_icmp_ne (t := 22) (pc2 := 8) rfl rfl rfl (by omega) (by omega) (fun c29 => ?_) (fun c29 => ?_)
            ·
              refine z_aload_n (pc2 := 23) rfl rfl rfl ?_
              refine z_getI (pc2 := 26) 0 rfl rfl rfl rfl rfl tq25 ?_
              intro v30 e30 r30 k30
              replace k30 : (d26 = 0 → 0 ≤ v30 ∧ v30 < n27) ∧ (d26 = 1 → 0 ≤ v30 ∧ v30 ≤ 5) ∧ (d26 = 4 → 0 ≤ v30 ∧ v30 ≤ 3) := k30
              clear e30
              refine z_iret rfl rfl ?_
              show zB _ _ _ _ _ _ [_] _ _
              refine z_iret rfl rfl ?_
              exact hK _ _ _ _ _ _ _ (zCP_q ⟨zTn_rf, zQi_rf, zQp_rf⟩ (zTm_rf _)) (by omega)
            ·
              refine z_aload_n (pc2 := 9) rfl rfl rfl ?_
              refine z_getP (pc2 := 12) rfl rfl rfl rfl tq25 ?_
              intro p31 p31e p31k
              obtain ⟨q32, rfl, q329, tq32, q32b⟩ := p31k
              replace tq32 : _ = ((1, 3, [n27]) : zT) := tq32
              refine zB_le tq32 trivial (fun q32l => ?_)
              refine z_aload_n (pc2 := 13) rfl rfl rfl ?_
              refine z_getI (pc2 := 16) 0 rfl rfl rfl rfl rfl tq25 ?_
              intro v33 e33 r33 k33
              replace k33 : (d26 = 0 → 0 ≤ v33 ∧ v33 < n27) ∧ (d26 = 1 → 0 ≤ v33 ∧ v33 ≤ 5) ∧ (d26 = 4 → 0 ≤ v33 ∧ v33 ≤ 3) := k33
              clear e33
              refine z_callV (y2 := 40) (as := [_]) (rest := []) (pc2 := 19) rfl rfl rfl rfl tq32 rfl ?_
              refine z_inl ?_
              refine z_lv (lv2 := [(0, _), (1, _)]) ⟨rfl, rfl, trivial⟩ ?_
              refine z_aload_n (pc2 := 1) rfl rfl rfl ?_
              refine z_getP (pc2 := 4) rfl rfl rfl rfl tq32 ?_
              intro p34 p34e p34k
              obtain ⟨q35, rfl, q359, tq35, -⟩ := p34k
              replace tq35 : _ = ((2, 0, [18, 26, n27]) : zT) := tq35
              refine zB_le tq35 trivial (fun q35l => ?_)
              refine z_iload_n (pc2 := 5) rfl rfl rfl ?_
              refine z_iconst (pc2 := 6) rfl rfl ?_
              refine z_imul (pc2 := 7) rfl rfl ?_
              refine z_iald (pc2 := 8) rfl rfl tq35 (by omega) (by omega) (by omega) ?_
              intro v36 e36 r36 k36
              replace k36 := ok_26 k36
              clear e36
              refine z_iret rfl rfl ?_
              show zB _ _ _ _ _ _ [_] _ _
              refine z_goto (pc2 := 26) rfl rfl ?_
              refine z_iret rfl rfl ?_
              show zB _ _ _ _ _ _ [_] _ _
              refine z_iret rfl rfl ?_
              exact hK _ _ _ _ _ _ _ (zCP_q ⟨zTn_rf, zQi_rf, zQp_rf⟩ (zTm_rf _)) (by omega)
          ·
            refine ⟨_, 84, rfl, rfl, ?_⟩
            refine z_aload (pc2 := 86) rfl rfl rfl ?_
            refine z_iload_n (pc2 := 87) rfl rfl rfl ?_
            refine z_aald (pc2 := 88) rfl rfl tq14 rfl (by omega) (by omega) (by omega) ?_
            intro p37 p37e p37k
            obtain ⟨q38, rfl, q389, d39, n40, tq38, q38c, q38b⟩ := p37k (by omega)
            replace tq38 : _ = ((1, 9, [1, d39, n40]) : zT) := tq38
            refine zB_le tq38 trivial (fun q38l => ?_)
            refine z_getI (pc2 := 91) 0 rfl rfl rfl rfl rfl tq38 ?_
            intro v41 e41 r41 k41
            clear k41
            clear e41
            refine z_iret rfl rfl ?_
            exact hK _ _ _ _ _ _ _ (zCP_q ⟨zTn_rf, zQi_rf, zQp_rf⟩ (zTm_rf _)) (by omega)
      ·
        refine z_iconst (pc2 := 41) rfl rfl ?_
        refine z_iret rfl rfl ?_
        exact hK _ _ _ _ _ _ _ (zCP_q ⟨zTn_rf, zQi_rf, zQp_rf⟩ (zTm_rf _)) (by omega)
  ·
    refine z_iconst (pc2 := 9) rfl rfl ?_
    refine z_iret rfl rfl ?_
    exact hK _ _ _ _ _ _ _ (zCP_q ⟨zTn_rf, zQi_rf, zQp_rf⟩ (zTm_rf _)) (by omega)
set_option maxHeartbeats 8000000 in
theorem c_TypeRoom_page {L : Nat} {xs : Nat → Int32} {n sl : Nat} {T : Nat → zT} {I : Nat → Nat → Int} {P : Nat → Nat → Option Nat} {G : Nat → Nat → Int} {K : List zV → zH → Prop} {a c : Int} (hn : 90 ≤ n) (hC : ∀ a, 1 ≤ a → a ≤ 55 → T a = zFixC a) (ha : zR a) (hc : zR c) (hcr : zCR T I P) (hK : ∀ e n2 sl2 T2 I2 P2 G2, zCP n T T2 I I2 P P2 → (n ≤ n2 ∧ n2 ≤ n + 0 ∧ sl2 ≤ sl + 0) → K [.inl e] (n2, sl2, T2, I2, P2, G2)) : zX zMd L xs 131 [.inr (.inl (some 1)), .inl a, .inl c] (n, sl, T, I, P, G) K := by
  have t1 : T 1 = (1, 11, [1]) := hC 1 (by decide) (by decide)
  refine z_inl ?_
  refine z_lv (lv2 := [(0, _), (1, _), (2, _)]) ⟨rfl, rfl, rfl, trivial⟩ ?_
  refine z_aload_n (pc2 := 1) rfl rfl rfl ?_
  refine z_iload_n (pc2 := 2) rfl rfl rfl ?_
  refine z_callV (y2 := 150) (as := [_]) (rest := []) (pc2 := 5) rfl rfl rfl rfl t1 rfl ?_
  refine z_inl ?_
  refine z_lv (lv2 := [(0, _), (1, _)]) ⟨rfl, rfl, trivial⟩ ?_
  refine z_iload_n (pc2 := 1) rfl rfl rfl ?_
  refine z_iconst (pc2 := 2) rfl rfl ?_
  refine z_aload_n (pc2 := 3) rfl rfl rfl ?_
  refine z_getP (pc2 := 6) rfl rfl rfl rfl t1 ?_
  intro p1 p1e p1k
  obtain ⟨b2, rfl, hb2⟩ := zHere p1k
  have tb2 := zRm_t hC hb2
  refine z_getP (pc2 := 9) rfl rfl rfl rfl tb2.1 ?_
  intro p3 p3e p3k
  obtain ⟨x4, rfl, hx4⟩ := zFloorOf p3k
  have ix4 : x4 = 23 ∨ x4 = 30 ∨ x4 = 42 ∨ x4 = 49 := by omega
  have tx4 := zFl_t hC ix4
  refine z_getI (pc2 := 12) 0 rfl rfl rfl rfl rfl tx4.1 ?_
  intro v5 e5 r5 k5
  replace k5 : (0 : Int) ≤ v5 ∧ v5 ≤ 89 := k5
  refine z_iconst (pc2 := 13) rfl rfl ?_
  refine z_isub (pc2 := 14) rfl rfl ?_
  refine z_callS (y2 := 155) (as := [_, _, _]) (rest := []) (pc2 := 17) rfl rfl rfl rfl ?_
  refine c_TypeRoom_isOutside (by omega) (by omega) (by omega) (fun e6 e6a e6b e6c => ?_)
  show zB _ _ _ _ _ _ [_] _ _
  refine z_zret rfl rfl (by omega) ?_
  show zB _ _ _ _ _ _ [_] _ _
  refine z_if_eq (t := 12) (pc2 := 8) rfl rfl rfl (by omega) (fun c7 => ?_) (fun c7 => ?_)
  ·
    refine z_aload_n (pc2 := 13) rfl rfl rfl ?_
    refine z_getP (pc2 := 16) rfl rfl rfl rfl t1 ?_
    intro p8 p8e p8k
    clear p8k; replace p8e : p8 = some b2 := by rw [p8e]; first | exact p1e | exact Eq.symm p1e | (simp [zU]; first | done | exact p1e | exact Eq.symm p1e | omega)
    subst p8e
    refine z_getP (pc2 := 19) rfl rfl rfl rfl tb2.1 ?_
    intro p9 p9e p9k
    clear p9k; replace p9e : p9 = some x4 := by rw [p9e]; first | exact p3e | exact Eq.symm p3e | (simp [zU]; first | done | exact p3e | exact Eq.symm p3e | omega)
    subst p9e
    refine z_getP (pc2 := 22) rfl rfl rfl rfl tx4.1 ?_
    intro p10 p10e p10k
    replace p10k : p10 = some (x4 + 5) := p10k; clear p10e; subst p10k
    refine z_iload_n (pc2 := 23) rfl rfl rfl ?_
    refine z_aald (pc2 := 24) rfl rfl tx4.2.2.2.2.2.1 rfl (by omega) (by omega) (by omega) ?_
    intro p11 p11e p11k
    rcases p11k with rfl | ⟨q12, rfl, q129, f13, l14, tq12⟩
    ·
      obtain ⟨q9, f9, l9, h9, -⟩ := (hcr.2.2 _ ix4).2.1 (a).toNat (by omega); rw [← p11e] at h9; cases h9
    ·
      replace tq12 : _ = ((1, 5, [f13, l14]) : zT) := tq12
      refine zB_le tq12 trivial (fun q12l => ?_)
      refine z_iload_n (pc2 := 25) rfl rfl rfl ?_
      refine z_callV (y2 := 52) (as := [_]) (rest := []) (pc2 := 28) rfl rfl rfl rfl tq12 rfl ?_
      refine z_inl ?_
      refine z_lv (lv2 := [(0, _), (1, _)]) ⟨rfl, rfl, trivial⟩ ?_
      refine z_iload_n (pc2 := 1) rfl rfl rfl ?_
      refine z_tsw (td := 62) rfl rfl (by omega) (fun c15 => ?_) (fun j c15j c15h => ?_)
      ·
        refine z_iconst (pc2 := 63) rfl rfl ?_
        refine z_iret rfl rfl ?_
        show zB _ _ _ _ _ _ [_] _ _
        refine z_iret rfl rfl ?_
        exact hK _ _ _ _ _ _ _ (zCP_q ⟨zTn_rf, zQi_rf, zQp_rf⟩ (zTm_rf _)) (by omega)
      ·
        have c15t : j = 0 ∨ j = 1 ∨ j = 2 ∨ j = 3 ∨ j = 4 := by omega
        rcases c15t with rfl | rfl | rfl | rfl | rfl
        ·
          refine ⟨_, 36, rfl, rfl, ?_⟩
          refine z_aload_n (pc2 := 37) rfl rfl rfl ?_
          refine z_getI (pc2 := 40) 0 rfl rfl rfl rfl rfl tq12 ?_
          intro v16 e16 r16 k16
          replace k16 : f13 = v16 := Eq.symm k16; subst k16
          refine z_iret rfl rfl ?_
          show zB _ _ _ _ _ _ [_] _ _
          refine z_iret rfl rfl ?_
          exact hK _ _ _ _ _ _ _ (zCP_q ⟨zTn_rf, zQi_rf, zQp_rf⟩ (zTm_rf _)) (by omega)
        ·
          refine ⟨_, 41, rfl, rfl, ?_⟩
          refine z_aload_n (pc2 := 42) rfl rfl rfl ?_
          refine z_getI (pc2 := 45) 0 rfl rfl rfl rfl rfl tq12 ?_
          intro v17 e17 r17 k17
          replace k17 : l14 = v17 := Eq.symm k17; subst k17
          refine z_iret rfl rfl ?_
          show zB _ _ _ _ _ _ [_] _ _
          refine z_iret rfl rfl ?_
          exact hK _ _ _ _ _ _ _ (zCP_q ⟨zTn_rf, zQi_rf, zQp_rf⟩ (zTm_rf _)) (by omega)
        ·
          refine ⟨_, 46, rfl, rfl, ?_⟩
          refine z_aload_n (pc2 := 47) rfl rfl rfl ?_
          refine z_getI (pc2 := 50) 0 rfl rfl rfl rfl rfl tq12 ?_
          intro v18 e18 r18 k18
          clear k18
          clear e18
          refine z_iret rfl rfl ?_
          show zB _ _ _ _ _ _ [_] _ _
          refine z_iret rfl rfl ?_
          exact hK _ _ _ _ _ _ _ (zCP_q ⟨zTn_rf, zQi_rf, zQp_rf⟩ (zTm_rf _)) (by omega)
        ·
          refine ⟨_, 51, rfl, rfl, ?_⟩
          refine z_aload_n (pc2 := 52) rfl rfl rfl ?_
          refine z_getI (pc2 := 55) 0 rfl rfl rfl rfl rfl tq12 ?_
          intro v19 e19 r19 k19
          clear k19
          clear e19
          refine z_iret rfl rfl ?_
          show zB _ _ _ _ _ _ [_] _ _
          refine z_iret rfl rfl ?_
          exact hK _ _ _ _ _ _ _ (zCP_q ⟨zTn_rf, zQi_rf, zQp_rf⟩ (zTm_rf _)) (by omega)
        ·
          refine ⟨_, 56, rfl, rfl, ?_⟩
          refine z_aload_n (pc2 := 57) rfl rfl rfl ?_
          refine z_getP (pc2 := 60) rfl rfl rfl rfl tq12 ?_
          intro p20 p20e p20k
          obtain ⟨q21, rfl, q219, m22, tq21, q21b⟩ := p20k
          replace tq21 : _ = ((2, 0, [(m22), 9]) : zT) := tq21
          refine zB_le tq21 trivial (fun q21l => ?_)
          refine z_alen (pc2 := 61) rfl rfl tq21 rfl (by omega) ?_
          refine z_iret rfl rfl ?_
          show zB _ _ _ _ _ _ [_] _ _
          refine z_iret rfl rfl ?_
          exact hK _ _ _ _ _ _ _ (zCP_q ⟨zTn_rf, zQi_rf, zQp_rf⟩ (zTm_rf _)) (by omega)
  ·
    refine z_iconst (pc2 := 9) rfl rfl ?_
    refine z_goto (pc2 := 28) rfl rfl ?_
    refine z_iret rfl rfl ?_
    exact hK _ _ _ _ _ _ _ (zCP_q ⟨zTn_rf, zQi_rf, zQp_rf⟩ (zTm_rf _)) (by omega)
set_option maxHeartbeats 8000000 in
theorem c_TypeRoom_noteOf {L : Nat} {xs : Nat → Int32} {n sl : Nat} {T : Nat → zT} {I : Nat → Nat → Int} {P : Nat → Nat → Option Nat} {G : Nat → Nat → Int} {K : List zV → zH → Prop} {a c : Int} (hn : 90 ≤ n) (hC : ∀ a, 1 ≤ a → a ≤ 55 → T a = zFixC a) (ha : zR a) (hc : zR c) (hcr : zCR T I P) (hK : ∀ e n2 sl2 T2 I2 P2 G2, zCP n T T2 I I2 P P2 → (n ≤ n2 ∧ n2 ≤ n + 0 ∧ sl2 ≤ sl + 0) → K [.inl e] (n2, sl2, T2, I2, P2, G2)) : zX zMd L xs 132 [.inr (.inl (some 1)), .inl a, .inl c] (n, sl, T, I, P, G) K := by
  have t1 : T 1 = (1, 11, [1]) := hC 1 (by decide) (by decide)
  refine z_inl ?_
  refine z_lv (lv2 := [(0, _), (1, _), (2, _)]) ⟨rfl, rfl, rfl, trivial⟩ ?_
  refine z_aload_n (pc2 := 1) rfl rfl rfl ?_
  refine z_iload_n (pc2 := 2) rfl rfl rfl ?_
  refine z_callV (y2 := 150) (as := [_]) (rest := []) (pc2 := 5) rfl rfl rfl rfl t1 rfl ?_
  refine z_inl ?_
  refine z_lv (lv2 := [(0, _), (1, _)]) ⟨rfl, rfl, trivial⟩ ?_
  refine z_iload_n (pc2 := 1) rfl rfl rfl ?_
  refine z_iconst (pc2 := 2) rfl rfl ?_
  refine z_aload_n (pc2 := 3) rfl rfl rfl ?_
  refine z_getP (pc2 := 6) rfl rfl rfl rfl t1 ?_
  intro p1 p1e p1k
  obtain ⟨b2, rfl, hb2⟩ := zHere p1k
  have tb2 := zRm_t hC hb2
  refine z_getP (pc2 := 9) rfl rfl rfl rfl tb2.1 ?_
  intro p3 p3e p3k
  obtain ⟨x4, rfl, hx4⟩ := zFloorOf p3k
  have ix4 : x4 = 23 ∨ x4 = 30 ∨ x4 = 42 ∨ x4 = 49 := by omega
  have tx4 := zFl_t hC ix4
  refine z_getI (pc2 := 12) 0 rfl rfl rfl rfl rfl tx4.1 ?_
  intro v5 e5 r5 k5
  replace k5 : (0 : Int) ≤ v5 ∧ v5 ≤ 89 := k5
  refine z_iconst (pc2 := 13) rfl rfl ?_
  refine z_isub (pc2 := 14) rfl rfl ?_
  refine z_callS (y2 := 155) (as := [_, _, _]) (rest := []) (pc2 := 17) rfl rfl rfl rfl ?_
  refine c_TypeRoom_isOutside (by omega) (by omega) (by omega) (fun e6 e6a e6b e6c => ?_)
  show zB _ _ _ _ _ _ [_] _ _
  refine z_zret rfl rfl (by omega) ?_
  show zB _ _ _ _ _ _ [_] _ _
  refine z_if_eq (t := 10) (pc2 := 8) rfl rfl rfl (by omega) (fun c7 => ?_) (fun c7 => ?_)
  ·
    refine z_aload_n (pc2 := 11) rfl rfl rfl ?_
    refine z_getP (pc2 := 14) rfl rfl rfl rfl t1 ?_
    intro p8 p8e p8k
    clear p8k; replace p8e : p8 = some b2 := by rw [p8e]; first | exact p1e | exact Eq.symm p1e | (simp [zU]; first | done | exact p1e | exact Eq.symm p1e | omega)
    subst p8e
    refine z_getP (pc2 := 17) rfl rfl rfl rfl tb2.1 ?_
    intro p9 p9e p9k
    clear p9k; replace p9e : p9 = some x4 := by rw [p9e]; first | exact p3e | exact Eq.symm p3e | (simp [zU]; first | done | exact p3e | exact Eq.symm p3e | omega)
    subst p9e
    refine z_getP (pc2 := 20) rfl rfl rfl rfl tx4.1 ?_
    intro p10 p10e p10k
    replace p10k : p10 = some (x4 + 5) := p10k; clear p10e; subst p10k
    refine z_iload_n (pc2 := 21) rfl rfl rfl ?_
    refine z_aald (pc2 := 22) rfl rfl tx4.2.2.2.2.2.1 rfl (by omega) (by omega) (by omega) ?_
    intro p11 p11e p11k
    rcases p11k with rfl | ⟨q12, rfl, q129, f13, l14, tq12⟩
    ·
      obtain ⟨q9, f9, l9, h9, -⟩ := (hcr.2.2 _ ix4).2.1 (a).toNat (by omega); rw [← p11e] at h9; cases h9
    ·
      replace tq12 : _ = ((1, 5, [f13, l14]) : zT) := tq12
      refine zB_le tq12 trivial (fun q12l => ?_)
      refine z_getP (pc2 := 25) rfl rfl rfl rfl tq12 ?_
      intro p15 p15e p15k
      obtain ⟨q16, rfl, q169, m17, tq16, q16b⟩ := p15k
      replace tq16 : _ = ((2, 0, [(m17), 9]) : zT) := tq16
      refine zB_le tq16 trivial (fun q16l => ?_)
      refine z_astore_n (lv2 := [(3, _), (0, _), (1, _), (2, _)]) (pc2 := 26) rfl rfl rfl rfl ?_
      refine z_iload_n (pc2 := 27) rfl rfl rfl ?_
      refine z_iconst (pc2 := 28) rfl rfl ?_
      refine z_aload_n (pc2 := 29) rfl rfl rfl ?_
      refine z_alen (pc2 := 30) rfl rfl tq16 rfl (by omega) ?_
      refine z_iconst (pc2 := 31) rfl rfl ?_
      refine z_isub (pc2 := 32) rfl rfl ?_
      refine z_callS (y2 := 155) (as := [_, _, _]) (rest := []) (pc2 := 35) rfl rfl rfl rfl ?_
      refine c_TypeRoom_isOutside (by omega) (by omega) (by omega) (fun e18 e18a e18b e18c => ?_)
      show zB _ _ _ _ _ _ [_] _ _
      refine z_if_eq (t := 43) (pc2 := 38) rfl rfl rfl (by omega) (fun c19 => ?_) (fun c19 => ?_)
      ·
        refine z_aload_n (pc2 := 44) rfl rfl rfl ?_
        refine z_iload_n (pc2 := 45) rfl rfl rfl ?_
        refine z_iald (pc2 := 46) rfl rfl tq16 (by omega) (by omega) (by omega) ?_
        intro v20 e20 r20 k20
        replace k20 : (0 : Int) ≤ v20 ∧ v20 ≤ 11 := k20
        clear e20
        refine z_iret rfl rfl ?_
        exact hK _ _ _ _ _ _ _ (zCP_q ⟨zTn_rf, zQi_rf, zQp_rf⟩ (zTm_rf _)) (by omega)
      ·
        refine z_bipush (pc2 := 40) rfl rfl (by decide) ?_
        refine z_goto (pc2 := 46) rfl rfl ?_
        refine z_iret rfl rfl ?_
        exact hK _ _ _ _ _ _ _ (zCP_q ⟨zTn_rf, zQi_rf, zQp_rf⟩ (zTm_rf _)) (by omega)
  ·
    refine z_iconst (pc2 := 9) rfl rfl ?_
    refine z_iret rfl rfl ?_
    exact hK _ _ _ _ _ _ _ (zCP_q ⟨zTn_rf, zQi_rf, zQp_rf⟩ (zTm_rf _)) (by omega)
set_option maxHeartbeats 8000000 in
theorem c_TypeRoom_forme {L : Nat} {xs : Nat → Int32} {n sl : Nat} {T : Nat → zT} {I : Nat → Nat → Int} {P : Nat → Nat → Option Nat} {G : Nat → Nat → Int} {K : List zV → zH → Prop} {a : Int} (hn : 90 ≤ n) (hC : ∀ a, 1 ≤ a → a ≤ 55 → T a = zFixC a) (ha : zR a) (hcr : zCR T I P) (hK : ∀ e n2 sl2 T2 I2 P2 G2, zCP n T T2 I I2 P P2 → (n ≤ n2 ∧ n2 ≤ n + 0 ∧ sl2 ≤ sl + 0) → K [.inl e] (n2, sl2, T2, I2, P2, G2)) : zX zMd L xs 134 [.inr (.inl (some 1)), .inl a] (n, sl, T, I, P, G) K := by
  have t1 : T 1 = (1, 11, [1]) := hC 1 (by decide) (by decide)
  refine z_inl ?_
  refine z_lv (lv2 := [(0, _), (1, _)]) ⟨rfl, rfl, trivial⟩ ?_
  refine z_iload_n (pc2 := 1) rfl rfl rfl ?_
  refine z_iconst (pc2 := 2) rfl rfl ?_
  refine z_aload_n (pc2 := 3) rfl rfl rfl ?_
  refine z_getP (pc2 := 6) rfl rfl rfl rfl t1 ?_
  intro p1 p1e p1k
  obtain ⟨b2, rfl, hb2⟩ := zHere p1k
  have tb2 := zRm_t hC hb2
  refine z_getP (pc2 := 9) rfl rfl rfl rfl tb2.1 ?_
  intro p3 p3e p3k
  obtain ⟨x4, rfl, hx4⟩ := zFloorOf p3k
  have ix4 : x4 = 23 ∨ x4 = 30 ∨ x4 = 42 ∨ x4 = 49 := by omega
  have tx4 := zFl_t hC ix4
  refine z_getI (pc2 := 12) 0 rfl rfl rfl rfl rfl tx4.1 ?_
  intro v5 e5 r5 k5
  replace k5 : (0 : Int) ≤ v5 ∧ v5 ≤ 12 := k5
  refine z_iconst (pc2 := 13) rfl rfl ?_
  refine z_isub (pc2 := 14) rfl rfl ?_
  refine z_callS (y2 := 155) (as := [_, _, _]) (rest := []) (pc2 := 17) rfl rfl rfl rfl ?_
  refine c_TypeRoom_isOutside (by omega) (by omega) (by omega) (fun e6 e6a e6b e6c => ?_)
  show zB _ _ _ _ _ _ [_] _ _
  refine z_if_eq (t := 25) (pc2 := 20) rfl rfl rfl (by omega) (fun c7 => ?_) (fun c7 => ?_)
  ·
    refine z_aload_n (pc2 := 26) rfl rfl rfl ?_
    refine z_getP (pc2 := 29) rfl rfl rfl rfl t1 ?_
    intro p8 p8e p8k
    clear p8k; replace p8e : p8 = some b2 := by rw [p8e]; first | exact p1e | exact Eq.symm p1e | (simp [zU]; first | done | exact p1e | exact Eq.symm p1e | omega)
    subst p8e
    refine z_getP (pc2 := 32) rfl rfl rfl rfl tb2.1 ?_
    intro p9 p9e p9k
    clear p9k; replace p9e : p9 = some x4 := by rw [p9e]; first | exact p3e | exact Eq.symm p3e | (simp [zU]; first | done | exact p3e | exact Eq.symm p3e | omega)
    subst p9e
    refine z_getP (pc2 := 35) rfl rfl rfl rfl tx4.1 ?_
    intro p10 p10e p10k
    replace p10k : p10 = some (x4 + 6) := p10k; clear p10e; subst p10k
    refine z_iload_n (pc2 := 36) rfl rfl rfl ?_
    refine z_aald (pc2 := 37) rfl rfl tx4.2.2.2.2.2.2 rfl (by omega) (by omega) (by omega) ?_
    intro p11 p11e p11k
    rcases p11k with rfl | ⟨q12, rfl, q129, tq12⟩
    ·
      obtain ⟨q9, h9⟩ := (hcr.2.2 _ ix4).2.2 (a).toNat (by omega); rw [← p11e] at h9; cases h9
    ·
      replace tq12 : _ = ((1, 2, [1]) : zT) := tq12
      refine zB_le tq12 trivial (fun q12l => ?_)
      refine z_getI (pc2 := 40) 0 rfl rfl rfl rfl rfl tq12 ?_
      intro v13 e13 r13 k13
      clear k13
      clear e13
      refine z_iret rfl rfl ?_
      exact hK _ _ _ _ _ _ _ (zCP_q ⟨zTn_rf, zQi_rf, zQp_rf⟩ (zTm_rf _)) (by omega)
  ·
    refine z_bipush (pc2 := 22) rfl rfl (by decide) ?_
    refine z_goto (pc2 := 40) rfl rfl ?_
    refine z_iret rfl rfl ?_
    exact hK _ _ _ _ _ _ _ (zCP_q ⟨zTn_rf, zQi_rf, zQp_rf⟩ (zTm_rf _)) (by omega)
set_option maxHeartbeats 8000000 in
theorem cl_Floor_removeLinesFrom {L : Nat} {xs : Nat → Int32} {n sl : Nat} {T : Nat → zT} {I : Nat → Nat → Int} {P : Nat → Nat → Option Nat} {K : List zV → zH → Prop} {l u : Int} {x : Nat} (hn : 90 ≤ n) (hC : ∀ a, 1 ≤ a → a ≤ 55 → T a = zFixC a) (hl : 0 ≤ l ∧ l ≤ 89) (hu : 0 ≤ u ∧ u ≤ 89) (ix : x = 23 ∨ x = 30 ∨ x = 42 ∨ x = 49) (hfl : zFlr T I P x) (hu : I x 6 = u) (hK : ∀ e I2 G2, (∀ a k, a ≠ x + 1 → ¬ (a = x ∧ (k = 6 ∨ k = 8)) → I2 a k = I a k) → I2 x 6 = l → I2 x 8 = 0 → K [.inl e] (n, sl, T, I2, P, G2)) (m : Nat) : ∀ (I2 : Nat → Nat → Int) (G2 : Nat → Nat → Int), ∀ (s k : Int), 0 ≤ k ∧ k ≤ 89 → (∀ a k, a ≠ x + 1 → I2 a k = I a k) → k ≤ u → (89 - k).toNat < m → zB zMd L xs 28 4 [(0, .inr (.inl (some x))), (1, .inl l), (2, .inl s), (3, .inl k)] [] (n, sl, T, I2, P, G2) K := by
  have tx := zFl_t hC ix
  induction m with
  | zero => intro I2 G2 s k hk hI2 hb3 hm; omega
  | succ m ih =>
    intro I2 G2 s k hk hI2 hb3 hm
    refine z_iload_n (pc2 := 5) rfl rfl rfl ?_
    refine z_aload_n (pc2 := 6) rfl rfl rfl ?_
    refine z_getI (pc2 := 9) 0 rfl rfl rfl rfl rfl tx.1 ?_
    intro v1 e1 r1 k1
    replace k1 : (0 : Int) ≤ v1 ∧ v1 ≤ 89 := k1
    replace e1 : u = v1 := by rw [e1]; first | exact ((hI2 x 6 (by omega)).trans hu) | exact Eq.symm ((hI2 x 6 (by omega)).trans hu) | (simp [zU]; first | done | exact ((hI2 x 6 (by omega)).trans hu) | exact Eq.symm ((hI2 x 6 (by omega)).trans hu) | omega)
    subst e1
    refine z_icmp_ge (t := 35) (pc2 := 12) rfl rfl rfl (by omega) (by omega) (fun c2 => ?_) (fun c2 => ?_)
    ·
      refine z_aload_n (pc2 := 36) rfl rfl rfl ?_
      refine z_iload_n (pc2 := 37) rfl rfl rfl ?_
      refine z_putI (pc2 := 40) rfl rfl rfl rfl rfl rfl tx.1 (by omega) (by show (0 : Int) ≤ _ ∧ _ ≤ 89; omega) ?_
      refine z_aload_n (pc2 := 41) rfl rfl rfl ?_
      refine z_iconst (pc2 := 42) rfl rfl ?_
      refine z_putI (pc2 := 45) rfl rfl rfl rfl rfl rfl tx.1 (by omega) (by show (0 : Int) ≤ _ ∧ _ ≤ 89; omega) ?_
      refine z_iload_n (pc2 := 46) rfl rfl rfl ?_
      refine z_iret rfl rfl ?_
      exact hK _ _ _ (fun a k h1 h2 => by have e1 : ¬ (a = x ∧ k = 8) := by omega
                                          have e2 : ¬ (a = x ∧ k = 6) := by omega
                                          simp only [zU, e1, e2, if_false]; exact hI2 a k h1) (by simp [zU]) (by simp [zU])
    ·
      refine z_iload_n (pc2 := 13) rfl rfl rfl ?_
      refine z_aload_n (pc2 := 14) rfl rfl rfl ?_
      refine z_getP (pc2 := 17) rfl rfl rfl rfl tx.1 ?_
      intro p3 p3e p3k
      replace p3k : p3 = some (x + 4) := p3k; clear p3e; subst p3k
      refine z_iload_n (pc2 := 18) rfl rfl rfl ?_
      refine z_aald (pc2 := 19) rfl rfl tx.2.2.2.2.1 rfl (by omega) (by omega) (by omega) ?_
      intro p4 p4e p4k
      rcases p4k with rfl | ⟨q5, rfl, q59, tq5⟩
      ·
        obtain ⟨q9, h9⟩ := hfl.1 (k).toNat (by omega); rw [← p4e] at h9; cases h9
      ·
        replace tq5 : _ = ((1, 4, [1]) : zT) := tq5
        refine zB_le tq5 trivial (fun q5l => ?_)
        refine z_aload_n (pc2 := 20) rfl rfl rfl ?_
        refine z_getP (pc2 := 23) rfl rfl rfl rfl tx.1 ?_
        intro p6 p6e p6k
        replace p6k : p6 = some (x + 1) := p6k; clear p6e; subst p6k
        refine z_iconst (pc2 := 24) rfl rfl ?_
        refine z_callV (y2 := 50) (as := [_, _]) (rest := [_]) (pc2 := 27) rfl rfl rfl rfl tq5 rfl ?_
        refine c_Line_moveSorts hn hC (by omega) tq5 (by omega) tx.2.1 (by omega) (fun w7 I7 G7 f7 => ?_)
        replace f7 := fun a k h => (f7 a k h).trans (hI2 a k h)
        show zB _ _ _ _ _ _ [_, _] _ _
        refine z_iadd (pc2 := 28) rfl rfl ?_
        refine z_istore_n (lv2 := [(2, _), (0, _), (1, _), (3, _)]) (pc2 := 29) rfl rfl rfl rfl ?_
        refine z_iinc (lv2 := [(3, _), (2, _), (0, _), (1, _)]) (pc2 := 32) rfl rfl rfl rfl rfl ?_
        refine z_goto (pc2 := 4) rfl rfl ?_
        refine z_lv (lv2 := [(0, _), (1, _), (2, _), (3, _)]) ⟨rfl, rfl, rfl, rfl, trivial⟩ ?_
        exact ih _ _ _ _ (by omega) (by assumption) (by omega) (by omega)
set_option maxHeartbeats 8000000 in
theorem c_Floor_removeLinesFrom {L : Nat} {xs : Nat → Int32} {n sl : Nat} {T : Nat → zT} {I : Nat → Nat → Int} {P : Nat → Nat → Option Nat} {G : Nat → Nat → Int} {K : List zV → zH → Prop} {l : Int} {x : Nat} (hn : 90 ≤ n) (hC : ∀ a, 1 ≤ a → a ≤ 55 → T a = zFixC a) (hl : 0 ≤ l ∧ l ≤ 89) (ix : x = 23 ∨ x = 30 ∨ x = 42 ∨ x = 49) (hfl : zFlr T I P x) (hlu : l ≤ I x 6) (hK : ∀ e I2 G2, (∀ a k, a ≠ x + 1 → ¬ (a = x ∧ (k = 6 ∨ k = 8)) → I2 a k = I a k) → I2 x 6 = l → I2 x 8 = 0 → K [.inl e] (n, sl, T, I2, P, G2)) : zX zMd L xs 28 [.inr (.inl (some x)), .inl l] (n, sl, T, I, P, G) K := by
  have tx := zFl_t hC ix
  refine zX_wf2 (fun hw => ?_)
  have b6 : 0 ≤ I x 6 ∧ I x 6 ≤ 89 := by have h1 := hw.2.1 x 6; rw [show (n, sl, T, I, P, G).2.2.1 x = T x from rfl, tx.1] at h1; exact h1
  have tx := zFl_t hC ix
  refine z_inl ?_
  refine z_lv (lv2 := [(0, _), (1, _)]) ⟨rfl, rfl, trivial⟩ ?_
  refine z_iconst (pc2 := 1) rfl rfl ?_
  refine z_istore_n (lv2 := [(2, _), (0, _), (1, _)]) (pc2 := 2) rfl rfl rfl rfl ?_
  refine z_iload_n (pc2 := 3) rfl rfl rfl ?_
  refine z_istore_n (lv2 := [(3, _), (2, _), (0, _), (1, _)]) (pc2 := 4) rfl rfl rfl rfl ?_
  refine z_lv (lv2 := [(0, _), (1, _), (2, _), (3, _)]) ⟨rfl, rfl, rfl, rfl, trivial⟩ ?_
  exact cl_Floor_removeLinesFrom hn hC (u := I x 6) (by omega) b6 ix hfl rfl hK _ _ _ _ _ (by omega)  (fun _ _ _ => rfl) (by omega) (Nat.lt_succ_self _)
set_option maxHeartbeats 8000000 in
theorem c_TypeRoom_drop {L : Nat} {xs : Nat → Int32} {n sl : Nat} {T : Nat → zT} {I : Nat → Nat → Int} {P : Nat → Nat → Option Nat} {G : Nat → Nat → Int} {K : List zV → zH → Prop} {a : Int} (hn : 90 ≤ n) (hC : ∀ a, 1 ≤ a → a ≤ 55 → T a = zFixC a) (ha : zR a) (hcr : zCR T I P) (hK : ∀ e n2 sl2 T2 I2 P2 G2, zCP n T T2 I I2 P P2 → (n ≤ n2 ∧ n2 ≤ n + 0 ∧ sl2 ≤ sl + 0) → K [.inl e] (n2, sl2, T2, I2, P2, G2)) : zX zMd L xs 127 [.inr (.inl (some 1)), .inl a] (n, sl, T, I, P, G) K := by
  have t1 : T 1 = (1, 11, [1]) := hC 1 (by decide) (by decide)
  refine z_inl ?_
  refine z_lv (lv2 := [(0, _), (1, _)]) ⟨rfl, rfl, trivial⟩ ?_
  refine z_aload_n (pc2 := 1) rfl rfl rfl ?_
  refine z_iload_n (pc2 := 2) rfl rfl rfl ?_
  refine z_callV (y2 := 149) (as := [_]) (rest := []) (pc2 := 5) rfl rfl rfl rfl t1 rfl ?_
  refine z_inl ?_
  refine z_lv (lv2 := [(0, _), (1, _)]) ⟨rfl, rfl, trivial⟩ ?_
  refine z_iload_n (pc2 := 1) rfl rfl rfl ?_
  refine z_iconst (pc2 := 2) rfl rfl ?_
  refine z_aload_n (pc2 := 3) rfl rfl rfl ?_
  refine z_getP (pc2 := 6) rfl rfl rfl rfl t1 ?_
  intro p1 p1e p1k
  obtain ⟨b2, rfl, hb2⟩ := zHere p1k
  have tb2 := zRm_t hC hb2
  refine z_getP (pc2 := 9) rfl rfl rfl rfl tb2.1 ?_
  intro p3 p3e p3k
  obtain ⟨x4, rfl, hx4⟩ := zFloorOf p3k
  have ix4 : x4 = 23 ∨ x4 = 30 ∨ x4 = 42 ∨ x4 = 49 := by omega
  have tx4 := zFl_t hC ix4
  refine z_getI (pc2 := 12) 0 rfl rfl rfl rfl rfl tx4.1 ?_
  intro v5 e5 r5 k5
  replace k5 : (0 : Int) ≤ v5 ∧ v5 ≤ 89 := k5
  refine z_iconst (pc2 := 13) rfl rfl ?_
  refine z_isub (pc2 := 14) rfl rfl ?_
  refine z_callS (y2 := 155) (as := [_, _, _]) (rest := []) (pc2 := 17) rfl rfl rfl rfl ?_
  refine c_TypeRoom_isOutside (by omega) (by omega) (by omega) (fun e6 e6a e6b e6c => ?_)
  show zB _ _ _ _ _ _ [_] _ _
  refine z_zret rfl rfl (by omega) ?_
  show zB _ _ _ _ _ _ [_] _ _
  refine z_if_eq (t := 14) (pc2 := 8) rfl rfl rfl (by omega) (fun c7 => ?_) (fun c7 => ?_)
  ·
    refine z_aload_n (pc2 := 15) rfl rfl rfl ?_
    refine z_getP (pc2 := 18) rfl rfl rfl rfl t1 ?_
    intro p8 p8e p8k
    clear p8k; replace p8e : p8 = some b2 := by rw [p8e]; first | exact p1e | exact Eq.symm p1e | (simp [zU]; first | done | exact p1e | exact Eq.symm p1e | omega)
    subst p8e
    refine z_callV (y2 := 77) (as := []) (rest := []) (pc2 := 21) rfl rfl rfl rfl tb2.1 rfl ?_
    have c9 := hcr
    obtain ⟨z9, hz9, hd9⟩ := zCR_z c9 hb2 (Eq.symm p3e)
    have iz9 : z9 = 23 ∨ z9 = 30 ∨ z9 = 42 ∨ z9 = 49 := by omega
    refine c_Room_keep hn hC hb2 ix4 iz9 (by omega) (c9.2.2 _ ix4) (Eq.symm p3e) hz9 (fun I9 P9 G9 k9 f9 => ?_)
    show zB _ _ _ _ _ _ [] _ _
    refine z_aload_n (pc2 := 22) rfl rfl rfl ?_
    refine z_aload_n (pc2 := 23) rfl rfl rfl ?_
    refine z_getP (pc2 := 26) rfl rfl rfl rfl t1 ?_
    intro p10 p10e p10k
    clear p10k; replace p10e : p10 = some b2 := by rw [p10e]; first | exact (Eq.trans p1e (Eq.symm (k9.2 _ _ (by omega)))) | exact Eq.symm (Eq.trans p1e (Eq.symm (k9.2 _ _ (by omega)))) | (simp [zU]; first | done | exact (Eq.trans p1e (Eq.symm (k9.2 _ _ (by omega)))) | exact Eq.symm (Eq.trans p1e (Eq.symm (k9.2 _ _ (by omega)))) | omega)
    subst p10e
    refine z_getP (pc2 := 29) rfl rfl rfl rfl tb2.1 ?_
    intro p11 p11e p11k
    clear p11k; replace p11e : p11 = some x4 := by rw [p11e]; first | exact (Eq.trans p3e (Eq.symm (k9.2 _ _ (by omega)))) | exact Eq.symm (Eq.trans p3e (Eq.symm (k9.2 _ _ (by omega)))) | (simp [zU]; first | done | exact (Eq.trans p3e (Eq.symm (k9.2 _ _ (by omega)))) | exact Eq.symm (Eq.trans p3e (Eq.symm (k9.2 _ _ (by omega)))) | omega)
    subst p11e
    refine z_iload_n (pc2 := 30) rfl rfl rfl ?_
    refine z_callV (y2 := 28) (as := [_]) (rest := [_]) (pc2 := 33) rfl rfl rfl rfl tx4.1 rfl ?_
    have y12 : (a) ≤ I9 x4 6 := by rw [k9.1 x4 6 (by omega) (by omega) (by omega) (by omega)]; omega
    refine c_Floor_removeLinesFrom hn hC (by omega) ix4 (zFlr_k2 (hcr.2.2 _ ix4) ix4 iz9 hb2 (by omega) k9) y12 (fun w12 I12 G12 f12 a12 b12 => ?_)
    show zB _ _ _ _ _ _ [_, _] _ _
    refine z_callV (y2 := 144) (as := [_]) (rest := []) (pc2 := 36) rfl rfl rfl rfl t1 rfl ?_
    refine z_inl ?_
    refine z_lv (lv2 := [(0, _), (1, _)]) ⟨rfl, rfl, trivial⟩ ?_
    refine z_aload_n (pc2 := 1) rfl rfl rfl ?_
    refine z_iconst (pc2 := 2) rfl rfl ?_
    refine z_putI (pc2 := 5) rfl rfl rfl rfl rfl rfl t1 (by omega) True.intro ?_
    refine z_iload_n (pc2 := 6) rfl rfl rfl ?_
    refine z_iret rfl rfl ?_
    show zB _ _ _ _ _ _ [_] _ _
    refine z_iret rfl rfl ?_
    exact hK _ _ _ _ _ _ _ (zCP_tr (m := n) (zCP_tr (m := n) (zCP_tr (m := n) (zCP_keep2 (n := n) iz9 hb2 k9 f9) (zCP_q ⟨zTn_rf, zQi_rf, zQp_rf⟩ (zTm_rf _)) (by omega)) (zCP_rl ix4 f12 a12 b12 y12) (by omega)) (zCP_q ⟨zTn_rf, (zQi_u zQi_rf (by unfold zIr; omega)), zQp_rf⟩ (zTm_rf _)) (by omega)) (by omega)
  ·
    refine z_aload_n (pc2 := 9) rfl rfl rfl ?_
    refine z_iconst (pc2 := 10) rfl rfl ?_
    refine z_callV (y2 := 142) (as := [_]) (rest := []) (pc2 := 13) rfl rfl rfl rfl t1 rfl ?_
    refine z_inl ?_
    refine z_lv (lv2 := [(0, _), (1, _)]) ⟨rfl, rfl, trivial⟩ ?_
    refine z_aload_n (pc2 := 1) rfl rfl rfl ?_
    refine z_iload_n (pc2 := 2) rfl rfl rfl ?_
    refine z_putI (pc2 := 5) rfl rfl rfl rfl rfl rfl t1 (by omega) True.intro ?_
    refine z_iload_n (pc2 := 6) rfl rfl rfl ?_
    refine z_iret rfl rfl ?_
    show zB _ _ _ _ _ _ [_] _ _
    refine z_iret rfl rfl ?_
    exact hK _ _ _ _ _ _ _ (zCP_q ⟨zTn_rf, (zQi_u zQi_rf (by unfold zIr; omega)), zQp_rf⟩ (zTm_rf _)) (by omega)
set_option maxHeartbeats 8000000 in
theorem c_TypeRoom_undo {L : Nat} {xs : Nat → Int32} {n sl : Nat} {T : Nat → zT} {I : Nat → Nat → Int} {P : Nat → Nat → Option Nat} {G : Nat → Nat → Int} {K : List zV → zH → Prop} (hn : 90 ≤ n) (hC : ∀ a, 1 ≤ a → a ≤ 55 → T a = zFixC a) (hcr : zCR T I P) (hK : ∀ e n2 sl2 T2 I2 P2 G2, zCP n T T2 I I2 P P2 → (n ≤ n2 ∧ n2 ≤ n + 0 ∧ sl2 ≤ sl + 0) → K [.inl e] (n2, sl2, T2, I2, P2, G2)) : zX zMd L xs 137 [.inr (.inl (some 1))] (n, sl, T, I, P, G) K := by
  have t1 : T 1 = (1, 11, [1]) := hC 1 (by decide) (by decide)
  refine z_inl ?_
  refine z_lv (lv2 := [(0, _)]) ⟨rfl, trivial⟩ ?_
  refine z_aload_n (pc2 := 1) rfl rfl rfl ?_
  refine z_getP (pc2 := 4) rfl rfl rfl rfl t1 ?_
  intro p1 p1e p1k
  obtain ⟨b2, rfl, hb2⟩ := zHere p1k
  have tb2 := zRm_t hC hb2
  refine z_getI (pc2 := 7) 2 rfl rfl rfl rfl rfl tb2.1 ?_
  intro v3 e3 r3 k3
  clear k3
  clear e3
  refine z_if_ne (t := 17) (pc2 := 10) rfl rfl rfl (by omega) (fun c4 => ?_) (fun c4 => ?_)
  ·
    refine z_aload_n (pc2 := 18) rfl rfl rfl ?_
    refine z_getP (pc2 := 21) rfl rfl rfl rfl t1 ?_
    intro p5 p5e p5k
    clear p5k; replace p5e : p5 = some b2 := by rw [p5e]; first | exact p1e | exact Eq.symm p1e | (simp [zU]; first | done | exact p1e | exact Eq.symm p1e | omega)
    subst p5e
    refine z_callV (y2 := 78) (as := []) (rest := []) (pc2 := 24) rfl rfl rfl rfl tb2.1 rfl ?_
    refine z_inl ?_
    refine z_lv (lv2 := [(0, _)]) ⟨rfl, trivial⟩ ?_
    refine z_aload_n (pc2 := 1) rfl rfl rfl ?_
    refine z_getP (pc2 := 4) rfl rfl rfl rfl tb2.1 ?_
    intro p6 p6e p6k
    obtain ⟨x7, rfl, hx7⟩ := zFloorOf p6k
    have ix7 : x7 = 23 ∨ x7 = 30 ∨ x7 = 42 ∨ x7 = 49 := by omega
    have tx7 := zFl_t hC ix7
    refine z_astore_n (lv2 := [(1, _), (0, _)]) (pc2 := 5) rfl rfl rfl rfl ?_
    refine z_aload_n (pc2 := 6) rfl rfl rfl ?_
    refine z_aload_n (pc2 := 7) rfl rfl rfl ?_
    refine z_getP (pc2 := 10) rfl rfl rfl rfl tb2.1 ?_
    intro p8 p8e p8k
    obtain ⟨x9, rfl, hx9⟩ := zFloorOf p8k
    have ix9 : x9 = 23 ∨ x9 = 30 ∨ x9 = 42 ∨ x9 = 49 := by omega
    have tx9 := zFl_t hC ix9
    refine z_putP (pc2 := 13) rfl rfl rfl rfl (by first | exact z_fitO _ _ | exact z_fitA _ _) rfl tb2.1 (by have h9 := hx9; rcases h9 with h9 | h9; exact Or.inl (by rw [h9] <;> rfl); exact Or.inr (by rw [h9] <;> rfl)) ?_
    refine z_aload_n (pc2 := 14) rfl rfl rfl ?_
    refine z_aload_n (pc2 := 15) rfl rfl rfl ?_
    refine z_putP (pc2 := 18) rfl rfl rfl rfl (by first | exact z_fitO _ _ | exact z_fitA _ _) rfl tb2.1 (by have h9 := hx7; rcases h9 with h9 | h9; exact Or.inl (by rw [h9] <;> rfl); exact Or.inr (by rw [h9] <;> rfl)) ?_
    refine z_aload_n (pc2 := 19) rfl rfl rfl ?_
    refine z_iconst (pc2 := 20) rfl rfl ?_
    refine z_putZ (pc2 := 23) rfl rfl rfl rfl rfl rfl tb2.1 (by omega) True.intro ?_
    refine z_ret rfl rfl ?_
    show zB _ _ _ _ _ _ [] _ _
    refine z_aload_n (pc2 := 25) rfl rfl rfl ?_
    refine z_iconst (pc2 := 26) rfl rfl ?_
    refine z_callV (y2 := 144) (as := [_]) (rest := []) (pc2 := 29) rfl rfl rfl rfl t1 rfl ?_
    refine z_inl ?_
    refine z_lv (lv2 := [(0, _), (1, _)]) ⟨rfl, rfl, trivial⟩ ?_
    refine z_aload_n (pc2 := 1) rfl rfl rfl ?_
    refine z_iconst (pc2 := 2) rfl rfl ?_
    refine z_putI (pc2 := 5) rfl rfl rfl rfl rfl rfl t1 (by omega) True.intro ?_
    refine z_iload_n (pc2 := 6) rfl rfl rfl ?_
    refine z_iret rfl rfl ?_
    show zB _ _ _ _ _ _ [_] _ _
    refine z_iret rfl rfl ?_
    first | exact hK _ _ _ _ _ _ _ (zCP_undo (by assumption) (by assumption) (by assumption)) (by omega) | exact hK _ _ _ _ _ _ _ (zCP_q ⟨zTn_rf, (zQi_u (zQi_u zQi_rf (by unfold zIr; omega)) (by unfold zIr; omega)), (zQp_u (zQp_u zQp_rf (by unfold zPr; omega)) (by unfold zPr; omega))⟩ (zTm_rf _)) (by omega)
  ·
    refine z_aload_n (pc2 := 11) rfl rfl rfl ?_
    refine z_bipush (pc2 := 13) rfl rfl (by decide) ?_
    refine z_callV (y2 := 142) (as := [_]) (rest := []) (pc2 := 16) rfl rfl rfl rfl t1 rfl ?_
    refine z_inl ?_
    refine z_lv (lv2 := [(0, _), (1, _)]) ⟨rfl, rfl, trivial⟩ ?_
    refine z_aload_n (pc2 := 1) rfl rfl rfl ?_
    refine z_iload_n (pc2 := 2) rfl rfl rfl ?_
    refine z_putI (pc2 := 5) rfl rfl rfl rfl rfl rfl t1 (by omega) True.intro ?_
    refine z_iload_n (pc2 := 6) rfl rfl rfl ?_
    refine z_iret rfl rfl ?_
    show zB _ _ _ _ _ _ [_] _ _
    refine z_iret rfl rfl ?_
    first | exact hK _ _ _ _ _ _ _ (zCP_undo (by assumption) (by assumption) (by assumption)) (by omega) | exact hK _ _ _ _ _ _ _ (zCP_q ⟨zTn_rf, (zQi_u zQi_rf (by unfold zIr; omega)), zQp_rf⟩ (zTm_rf _)) (by omega)
set_option maxHeartbeats 8000000 in
theorem cl_Floor_placeOfForme {L : Nat} {xs : Nat → Int32} {n sl : Nat} {T : Nat → zT} {I : Nat → Nat → Int} {P : Nat → Nat → Option Nat} {G : Nat → Nat → Int} {K : List zV → zH → Prop} {a u : Int} {x : Nat} (hn : 90 ≤ n) (hC : ∀ a, 1 ≤ a → a ≤ 55 → T a = zFixC a) (ha : zR a) (hu : 0 ≤ u ∧ u ≤ 12) (ix : x = 23 ∨ x = 30 ∨ x = 42 ∨ x = 49) (hfl : zFlr T I P x) (hu : I x 10 = u) (hK : ∀ e, (-1 ≤ e ∧ e ≤ 11) → (e < I x 10) → K [.inl e] (n, sl, T, I, P, G)) (m : Nat) : ∀ (k : Int), 0 ≤ k ∧ k ≤ 12 → (12 - k).toNat < m → zB zMd L xs 32 2 [(0, .inr (.inl (some x))), (1, .inl a), (2, .inl k)] [] (n, sl, T, I, P, G) K := by
  have tx := zFl_t hC ix
  induction m with
  | zero => intro k hk hm; omega
  | succ m ih =>
    intro k hk hm
    refine z_iload_n (pc2 := 3) rfl rfl rfl ?_
    refine z_aload_n (pc2 := 4) rfl rfl rfl ?_
    refine z_getI (pc2 := 7) 0 rfl rfl rfl rfl rfl tx.1 ?_
    intro v1 e1 r1 k1
    replace k1 : (0 : Int) ≤ v1 ∧ v1 ≤ 12 := k1
    replace e1 : u = v1 := by rw [e1]; first | exact hu | exact Eq.symm hu | (simp [zU]; first | done | exact hu | exact Eq.symm hu | omega)
    subst e1
    refine z_icmp_ge (t := 31) (pc2 := 10) rfl rfl rfl (by omega) (by omega) (fun c2 => ?_) (fun c2 => ?_)
    ·
      refine z_iconst (pc2 := 32) rfl rfl ?_
      refine z_iret rfl rfl ?_
      exact hK _ (by omega) (by omega)
    ·
      refine z_aload_n (pc2 := 11) rfl rfl rfl ?_
      refine z_getP (pc2 := 14) rfl rfl rfl rfl tx.1 ?_
      intro p3 p3e p3k
      replace p3k : p3 = some (x + 6) := p3k; clear p3e; subst p3k
      refine z_iload_n (pc2 := 15) rfl rfl rfl ?_
      refine z_aald (pc2 := 16) rfl rfl tx.2.2.2.2.2.2 rfl (by omega) (by omega) (by omega) ?_
      intro p4 p4e p4k
      rcases p4k with rfl | ⟨q5, rfl, q59, tq5⟩
      ·
        obtain ⟨q9, h9⟩ := hfl.2.2 (k).toNat (by omega); rw [← p4e] at h9; cases h9
      ·
        replace tq5 : _ = ((1, 2, [1]) : zT) := tq5
        refine zB_le tq5 trivial (fun q5l => ?_)
        refine z_getI (pc2 := 19) 0 rfl rfl rfl rfl rfl tq5 ?_
        intro v6 e6 r6 k6
        clear k6
        clear e6
        refine z_iload_n (pc2 := 20) rfl rfl rfl ?_
        refine z_icmp_ne (t := 25) (pc2 := 23) rfl rfl rfl (by omega) (by omega) (fun c7 => ?_) (fun c7 => ?_)
        ·
          refine z_iinc (lv2 := [(2, _), (0, _), (1, _)]) (pc2 := 28) rfl rfl rfl rfl rfl ?_
          refine z_goto (pc2 := 2) rfl rfl ?_
          refine z_lv (lv2 := [(0, _), (1, _), (2, _)]) ⟨rfl, rfl, rfl, trivial⟩ ?_
          exact ih _ (by omega) (by omega)
        ·
          refine z_iload_n (pc2 := 24) rfl rfl rfl ?_
          refine z_iret rfl rfl ?_
          exact hK _ (by omega) (by omega)
set_option maxHeartbeats 8000000 in
theorem c_Floor_placeOfForme {L : Nat} {xs : Nat → Int32} {n sl : Nat} {T : Nat → zT} {I : Nat → Nat → Int} {P : Nat → Nat → Option Nat} {G : Nat → Nat → Int} {K : List zV → zH → Prop} {a : Int} {x : Nat} (hn : 90 ≤ n) (hC : ∀ a, 1 ≤ a → a ≤ 55 → T a = zFixC a) (ha : zR a) (ix : x = 23 ∨ x = 30 ∨ x = 42 ∨ x = 49) (hfl : zFlr T I P x) (hK : ∀ e, (-1 ≤ e ∧ e ≤ 11) → (e < I x 10) → K [.inl e] (n, sl, T, I, P, G)) : zX zMd L xs 32 [.inr (.inl (some x)), .inl a] (n, sl, T, I, P, G) K := by
  have tx := zFl_t hC ix
  refine zX_wf2 (fun hw => ?_)
  have b10 : 0 ≤ I x 10 ∧ I x 10 ≤ 12 := by have h1 := hw.2.1 x 10; rw [show (n, sl, T, I, P, G).2.2.1 x = T x from rfl, tx.1] at h1; exact h1
  have tx := zFl_t hC ix
  refine z_inl ?_
  refine z_lv (lv2 := [(0, _), (1, _)]) ⟨rfl, rfl, trivial⟩ ?_
  refine z_iconst (pc2 := 1) rfl rfl ?_
  refine z_istore_n (lv2 := [(2, _), (0, _), (1, _)]) (pc2 := 2) rfl rfl rfl rfl ?_
  refine z_lv (lv2 := [(0, _), (1, _), (2, _)]) ⟨rfl, rfl, rfl, trivial⟩ ?_
  exact cl_Floor_placeOfForme hn hC (u := I x 10) (by omega) b10 ix hfl rfl hK _  _ (by omega)    (Nat.lt_succ_self _)
set_option maxHeartbeats 8000000 in
theorem cl_Forme_impression2 {L : Nat} {xs : Nat → Int32} {n sl : Nat} {T : Nat → zT} {I : Nat → Nat → Int} {P : Nat → Nat → Option Nat} {K : List zV → zH → Prop} {u k w : Int} {ar br : Nat} (hn : 90 ≤ n) (hC : ∀ a, 1 ≤ a → a ≤ 55 → T a = zFixC a) (hu : 0 ≤ u ∧ u ≤ 89) (hk : 0 ≤ k ∧ k ≤ 88) (hw : 0 ≤ w ∧ w ≤ 41) (ta : T ar = (2, 6, [u, 2])) (al : ar ≤ n) (tb : T br = (2, 9, [w, 2])) (bl : br ≤ n) (hE : ∀ (I2 G2 : Nat → Nat → Int) (d : Int), zTr I I2 → I2 3 1 ≤ 205 * (k + 1) → zB zMd L xs 35 18 [(1, .inr (.inl (some 3))), (2, .inr (.inr d)), (4, .inr (.inl (some ar))), (5, .inl u), (6, .inl (k + 1))] [] (n, sl, T, I2, P, G2) K) (hK : True) (m : Nat) : ∀ (I2 : Nat → Nat → Int) (G2 : Nat → Nat → Int), ∀ (d i : Int), 0 ≤ i ∧ i ≤ 41 → zTr I I2 → I2 3 1 ≤ 205 * k + 5 * i → (41 - i).toNat < m → zB zMd L xs 35 47 [(1, .inr (.inl (some 3))), (2, .inr (.inr d)), (4, .inr (.inl (some ar))), (5, .inl u), (6, .inl k), (8, .inr (.inl (some br))), (9, .inl w), (10, .inl i)] [] (n, sl, T, I2, P, G2) K := by
  induction m with
  | zero => intro I2 G2 d i hi hI2 htr hm; omega
  | succ m ih =>
    intro I2 G2 d i hi hI2 htr hm
    refine z_iload (pc2 := 49) rfl rfl rfl ?_
    refine z_iload (pc2 := 51) rfl rfl rfl ?_
    refine z_icmp_ge (t := 103) (pc2 := 54) rfl rfl rfl (by omega) (by omega) (fun c1 => ?_) (fun c1 => ?_)
    ·
      refine z_iinc (lv2 := [(6, _), (1, _), (2, _), (4, _), (5, _), (8, _), (9, _), (10, _)]) (pc2 := 106) rfl rfl rfl rfl rfl ?_
      refine z_goto (pc2 := 18) rfl rfl ?_
      refine z_lv (lv2 := [(1, _), (2, _), (4, _), (5, _), (6, _)]) ⟨rfl, rfl, rfl, rfl, rfl, trivial⟩ ?_
      exact hE _ _ _ hI2 (by omega)
    ·
      refine z_aload (pc2 := 56) rfl rfl rfl ?_
      refine z_iload (pc2 := 58) rfl rfl rfl ?_
      refine z_aald (pc2 := 59) rfl rfl tb rfl (by omega) (by omega) (by omega) ?_
      intro p2 p2e p2k
      obtain ⟨q3, rfl, q39, d4, n5, tq3, q3c, q3b⟩ := p2k (by omega)
      replace tq3 : _ = ((1, 9, [1, d4, n5]) : zT) := tq3
      refine zB_le tq3 trivial (fun q3l => ?_)
      refine z_astore (lv2 := [(11, _), (1, _), (2, _), (4, _), (5, _), (6, _), (8, _), (9, _), (10, _)]) (pc2 := 61) rfl rfl rfl rfl ?_
      refine z_aload (pc2 := 63) rfl rfl rfl ?_
      refine z_getI (pc2 := 66) 0 rfl rfl rfl rfl rfl tq3 ?_
      intro v6 e6 r6 k6
      replace k6 : d4 = v6 := Eq.symm k6; clear r6 e6; subst k6
      refine z_iconst (pc2 := 67) rfl rfl ?_
      refine z_icmp_ne (t := 79) (pc2 := 70) rfl rfl rfl (by omega) (by omega) (fun c7 => ?_) (fun c7 => ?_)
      ·
        refine z_aload (pc2 := 81) rfl rfl rfl ?_
        refine z_aload_n (pc2 := 82) rfl rfl rfl ?_
        refine z_callV (y2 := 97) (as := [_]) (rest := []) (pc2 := 85) rfl rfl rfl rfl tq3 rfl ?_
        refine c_Sort_ink hn hC (by omega) (by omega) tq3 (by omega) (by first | omega | (simp [zU] <;> omega)) (fun w8 I8 G8 h8 z8 => ?_)
        try simp [zU] at h8
        replace z8 := zTr_tr hI2 z8
        show zB _ _ _ _ _ _ [_] _ _
        refine z_istore (lv2 := [(12, _), (11, _), (1, _), (2, _), (4, _), (5, _), (6, _), (8, _), (9, _), (10, _)]) (pc2 := 87) rfl rfl rfl rfl ?_
        refine z_ldc2 (31) (pc2 := 90) rfl rfl rfl ?_
        refine z_lload_n (pc2 := 91) rfl rfl rfl ?_
        refine z_lmul (pc2 := 92) rfl rfl ?_
        refine z_iload (pc2 := 94) rfl rfl rfl ?_
        refine z_i2l_any (pc2 := 95) rfl rfl (fun g10 => ?_)
        refine z_ladd (pc2 := 96) rfl rfl ?_
        refine z_lstore_n (lv2 := [(2, _), (12, _), (11, _), (1, _), (4, _), (5, _), (6, _), (8, _), (9, _), (10, _)]) (pc2 := 97) rfl rfl rfl rfl ?_
        refine z_iinc (lv2 := [(10, _), (2, _), (12, _), (11, _), (1, _), (4, _), (5, _), (6, _), (8, _), (9, _)]) (pc2 := 100) rfl rfl rfl rfl rfl ?_
        refine z_goto (pc2 := 47) rfl rfl ?_
        refine z_lv (lv2 := [(1, _), (2, _), (4, _), (5, _), (6, _), (8, _), (9, _), (10, _)]) ⟨rfl, rfl, rfl, rfl, rfl, rfl, rfl, rfl, trivial⟩ ?_
        exact ih _ _ _ _ (by omega) z8 (by omega) (by omega)
      ·
        refine z_aload (pc2 := 72) rfl rfl rfl ?_
        refine z_aload_n (pc2 := 73) rfl rfl rfl ?_
        refine z_callV (y2 := 92) (as := [_]) (rest := []) (pc2 := 76) rfl rfl rfl rfl tq3 rfl ?_
        refine c_Sort_wide hn hC (by omega) (by omega) tq3 (by omega) (by first | omega | (simp [zU] <;> omega)) (fun w11 I11 G11 h11 z11 => ?_)
        try simp [zU] at h11
        replace z11 := zTr_tr hI2 z11
        show zB _ _ _ _ _ _ [_] _ _
        refine z_goto (pc2 := 85) rfl rfl ?_
        refine z_istore (lv2 := [(12, _), (11, _), (1, _), (2, _), (4, _), (5, _), (6, _), (8, _), (9, _), (10, _)]) (pc2 := 87) rfl rfl rfl rfl ?_
        refine z_ldc2 (31) (pc2 := 90) rfl rfl rfl ?_
        refine z_lload_n (pc2 := 91) rfl rfl rfl ?_
        refine z_lmul (pc2 := 92) rfl rfl ?_
        refine z_iload (pc2 := 94) rfl rfl rfl ?_
        refine z_i2l_any (pc2 := 95) rfl rfl (fun g13 => ?_)
        refine z_ladd (pc2 := 96) rfl rfl ?_
        refine z_lstore_n (lv2 := [(2, _), (12, _), (11, _), (1, _), (4, _), (5, _), (6, _), (8, _), (9, _), (10, _)]) (pc2 := 97) rfl rfl rfl rfl ?_
        refine z_iinc (lv2 := [(10, _), (2, _), (12, _), (11, _), (1, _), (4, _), (5, _), (6, _), (8, _), (9, _)]) (pc2 := 100) rfl rfl rfl rfl rfl ?_
        refine z_goto (pc2 := 47) rfl rfl ?_
        refine z_lv (lv2 := [(1, _), (2, _), (4, _), (5, _), (6, _), (8, _), (9, _), (10, _)]) ⟨rfl, rfl, rfl, rfl, rfl, rfl, rfl, rfl, trivial⟩ ?_
        exact ih _ _ _ _ (by omega) z11 (by omega) (by omega)
set_option maxHeartbeats 8000000 in
theorem cl_Forme_impression1 {L : Nat} {xs : Nat → Int32} {n sl : Nat} {T : Nat → zT} {I : Nat → Nat → Int} {P : Nat → Nat → Option Nat} {K : List zV → zH → Prop} {u : Int} {ar : Nat} (hn : 90 ≤ n) (hC : ∀ a, 1 ≤ a → a ≤ 55 → T a = zFixC a) (hu : 0 ≤ u ∧ u ≤ 89) (ta : T ar = (2, 6, [u, 2])) (al : ar ≤ n) (hK : ∀ e I2 G2, zTr I I2 → K [.inr (.inr e)] (n, sl, T, I2, P, G2)) (m : Nat) : ∀ (I2 : Nat → Nat → Int) (G2 : Nat → Nat → Int), ∀ (d k : Int), 0 ≤ k ∧ k ≤ 89 → zTr I I2 → I2 3 1 ≤ 205 * k → (89 - k).toNat < m → zB zMd L xs 35 18 [(1, .inr (.inl (some 3))), (2, .inr (.inr d)), (4, .inr (.inl (some ar))), (5, .inl u), (6, .inl k)] [] (n, sl, T, I2, P, G2) K := by
  induction m with
  | zero => intro I2 G2 d k hk hI2 htr hm; omega
  | succ m ih =>
    intro I2 G2 d k hk hI2 htr hm
    refine z_iload (pc2 := 20) rfl rfl rfl ?_
    refine z_iload (pc2 := 22) rfl rfl rfl ?_
    refine z_icmp_ge (t := 109) (pc2 := 25) rfl rfl rfl (by omega) (by omega) (fun c1 => ?_) (fun c1 => ?_)
    ·
      refine z_lload_n (pc2 := 110) rfl rfl rfl ?_
      refine z_lret rfl rfl ?_
      exact hK _ _ _ hI2
    ·
      refine z_aload (pc2 := 27) rfl rfl rfl ?_
      refine z_iload (pc2 := 29) rfl rfl rfl ?_
      refine z_aald (pc2 := 30) rfl rfl ta rfl (by omega) (by omega) (by omega) ?_
      intro p2 p2e p2k
      obtain ⟨q3, rfl, q39, tq3⟩ := p2k (by omega)
      replace tq3 : _ = ((1, 4, [1]) : zT) := tq3
      refine zB_le tq3 trivial (fun q3l => ?_)
      refine z_astore (lv2 := [(7, _), (1, _), (2, _), (4, _), (5, _), (6, _)]) (pc2 := 32) rfl rfl rfl rfl ?_
      refine z_aload (pc2 := 34) rfl rfl rfl ?_
      refine z_getP (pc2 := 37) rfl rfl rfl rfl tq3 ?_
      intro p4 p4e p4k
      obtain ⟨q5, rfl, q59, m6, tq5, q5b⟩ := p4k
      replace tq5 : _ = ((2, 9, [(m6), 2]) : zT) := tq5
      refine zB_le tq5 trivial (fun q5l => ?_)
      refine z_astore (lv2 := [(8, _), (7, _), (1, _), (2, _), (4, _), (5, _), (6, _)]) (pc2 := 39) rfl rfl rfl rfl ?_
      refine z_aload (pc2 := 41) rfl rfl rfl ?_
      refine z_alen (pc2 := 42) rfl rfl tq5 rfl (by omega) ?_
      refine z_istore (lv2 := [(9, _), (8, _), (7, _), (1, _), (2, _), (4, _), (5, _), (6, _)]) (pc2 := 44) rfl rfl rfl rfl ?_
      refine z_iconst (pc2 := 45) rfl rfl ?_
      refine z_istore (lv2 := [(10, _), (9, _), (8, _), (7, _), (1, _), (2, _), (4, _), (5, _), (6, _)]) (pc2 := 47) rfl rfl rfl rfl ?_
      refine z_lv (lv2 := [(1, _), (2, _), (4, _), (5, _), (6, _), (8, _), (9, _), (10, _)]) ⟨rfl, rfl, rfl, rfl, rfl, rfl, rfl, rfl, trivial⟩ ?_
      exact cl_Forme_impression2 hn hC (by omega) (by omega) (by omega) ta al tq5 (by omega) (fun I3 G3 d3 h3 h4 => ih I3 G3 d3 _ (by omega) h3 h4 (by omega)) trivial _ _ _ _ _ (by omega) hI2 (by omega) (Nat.lt_succ_self _)
set_option maxHeartbeats 8000000 in
theorem c_Forme_impression {L : Nat} {xs : Nat → Int32} {n sl : Nat} {T : Nat → zT} {I : Nat → Nat → Int} {P : Nat → Nat → Option Nat} {G : Nat → Nat → Int} {K : List zV → zH → Prop} {fo : Nat} (hn : 90 ≤ n) (hC : ∀ a, 1 ≤ a → a ≤ 55 → T a = zFixC a) (tf : T fo = (1, 2, [1])) (fol : fo ≤ n) (ht0 : I 3 1 = 0) (hK : ∀ e I2 G2, zTr I I2 → K [.inr (.inr e)] (n, sl, T, I2, P, G2)) : zX zMd L xs 35 [.inr (.inl (some fo)), .inr (.inl (some 3))] (n, sl, T, I, P, G) K := by
  refine z_inl ?_
  refine z_lv (lv2 := [(0, _), (1, _)]) ⟨rfl, rfl, trivial⟩ ?_
  refine z_ldc2 (17) (pc2 := 3) rfl rfl rfl ?_
  refine z_lstore_n (lv2 := [(2, _), (0, _), (1, _)]) (pc2 := 4) rfl rfl rfl rfl ?_
  refine z_aload_n (pc2 := 5) rfl rfl rfl ?_
  refine z_getP (pc2 := 8) rfl rfl rfl rfl tf ?_
  intro p1 p1e p1k
  obtain ⟨q2, rfl, q29, m3, tq2, q2b⟩ := p1k
  replace tq2 : _ = ((2, 6, [(m3), 2]) : zT) := tq2
  refine zB_le tq2 trivial (fun q2l => ?_)
  refine z_astore (lv2 := [(4, _), (2, _), (0, _), (1, _)]) (pc2 := 10) rfl rfl rfl rfl ?_
  refine z_aload (pc2 := 12) rfl rfl rfl ?_
  refine z_alen (pc2 := 13) rfl rfl tq2 rfl (by omega) ?_
  refine z_istore (lv2 := [(5, _), (4, _), (2, _), (0, _), (1, _)]) (pc2 := 15) rfl rfl rfl rfl ?_
  refine z_iconst (pc2 := 16) rfl rfl ?_
  refine z_istore (lv2 := [(6, _), (5, _), (4, _), (2, _), (0, _), (1, _)]) (pc2 := 18) rfl rfl rfl rfl ?_
  refine z_lv (lv2 := [(1, _), (2, _), (4, _), (5, _), (6, _)]) ⟨rfl, rfl, rfl, rfl, rfl, trivial⟩ ?_
  exact cl_Forme_impression1 hn hC (by omega) tq2 (by omega) hK _ _ _ _ _ (by omega) zTr_rf (by omega) (Nat.lt_succ_self _)
set_option maxHeartbeats 8000000 in
theorem c_TypeRoom_print {L : Nat} {xs : Nat → Int32} {n sl : Nat} {T : Nat → zT} {I : Nat → Nat → Int} {P : Nat → Nat → Option Nat} {G : Nat → Nat → Int} {K : List zV → zH → Prop} {a : Int} (hn : 90 ≤ n) (hC : ∀ a, 1 ≤ a → a ≤ 55 → T a = zFixC a) (ha : zR a) (hcr : zCR T I P) (hK : ∀ e n2 sl2 T2 I2 P2 G2, zCP n T T2 I I2 P P2 → (n ≤ n2 ∧ n2 ≤ n + 0 ∧ sl2 ≤ sl + 0) → K [.inr (.inr e)] (n2, sl2, T2, I2, P2, G2)) : zX zMd L xs 135 [.inr (.inl (some 1)), .inl a] (n, sl, T, I, P, G) K := by
  have t1 : T 1 = (1, 11, [1]) := hC 1 (by decide) (by decide)
  have t3 : T 3 = (1, 10, [1]) := hC 3 (by decide) (by decide)
  refine z_inl ?_
  refine z_lv (lv2 := [(0, _), (1, _)]) ⟨rfl, rfl, trivial⟩ ?_
  refine z_aload_n (pc2 := 1) rfl rfl rfl ?_
  refine z_getP (pc2 := 4) rfl rfl rfl rfl t1 ?_
  intro p1 p1e p1k
  obtain ⟨b2, rfl, hb2⟩ := zHere p1k
  have tb2 := zRm_t hC hb2
  refine z_getP (pc2 := 7) rfl rfl rfl rfl tb2.1 ?_
  intro p3 p3e p3k
  obtain ⟨x4, rfl, hx4⟩ := zFloorOf p3k
  have ix4 : x4 = 23 ∨ x4 = 30 ∨ x4 = 42 ∨ x4 = 49 := by omega
  have tx4 := zFl_t hC ix4
  refine z_iload_n (pc2 := 8) rfl rfl rfl ?_
  refine z_callV (y2 := 32) (as := [_]) (rest := []) (pc2 := 11) rfl rfl rfl rfl tx4.1 rfl ?_
  refine c_Floor_placeOfForme hn hC (by omega) ix4 (hcr.2.2 _ ix4) (fun w5 w5r w5v => ?_)
  show zB _ _ _ _ _ _ [_] _ _
  refine z_istore_n (lv2 := [(2, _), (0, _), (1, _)]) (pc2 := 12) rfl rfl rfl rfl ?_
  refine z_iload_n (pc2 := 13) rfl rfl rfl ?_
  refine z_if_ge (t := 24) (pc2 := 16) rfl rfl rfl (by omega) (fun c6 => ?_) (fun c6 => ?_)
  ·
    refine z_aload_n (pc2 := 25) rfl rfl rfl ?_
    refine z_getP (pc2 := 28) rfl rfl rfl rfl t1 ?_
    intro p7 p7e p7k
    replace p7k : p7 = some 3 := p7k; clear p7e; subst p7k
    refine z_callV (y2 := 102) (as := []) (rest := []) (pc2 := 31) rfl rfl rfl rfl t3 rfl ?_
    refine z_inl ?_
    refine z_lv (lv2 := [(0, _)]) ⟨rfl, trivial⟩ ?_
    refine z_aload_n (pc2 := 1) rfl rfl rfl ?_
    refine z_iconst (pc2 := 2) rfl rfl ?_
    refine z_putI (pc2 := 5) rfl rfl rfl rfl rfl rfl t3 (by omega) (by show (0 : Int) ≤ _ ∧ _ ≤ 1000000; omega) ?_
    refine z_ret rfl rfl ?_
    show zB _ _ _ _ _ _ [] _ _
    refine z_aload_n (pc2 := 32) rfl rfl rfl ?_
    refine z_iconst (pc2 := 33) rfl rfl ?_
    refine z_callV (y2 := 144) (as := [_]) (rest := []) (pc2 := 36) rfl rfl rfl rfl t1 rfl ?_
    refine z_inl ?_
    refine z_lv (lv2 := [(0, _), (1, _)]) ⟨rfl, rfl, trivial⟩ ?_
    refine z_aload_n (pc2 := 1) rfl rfl rfl ?_
    refine z_iconst (pc2 := 2) rfl rfl ?_
    refine z_putI (pc2 := 5) rfl rfl rfl rfl rfl rfl t1 (by omega) True.intro ?_
    refine z_iload_n (pc2 := 6) rfl rfl rfl ?_
    refine z_iret rfl rfl ?_
    show zB _ _ _ _ _ _ [_] _ _
    refine z_pop (pc2 := 37) rfl rfl rfl ?_
    refine z_aload_n (pc2 := 38) rfl rfl rfl ?_
    refine z_getP (pc2 := 41) rfl rfl rfl rfl t1 ?_
    intro p8 p8e p8k
    clear p8k; replace p8e : p8 = some b2 := by rw [p8e]; first | exact p1e | exact Eq.symm p1e | (simp [zU]; first | done | exact p1e | exact Eq.symm p1e | omega)
    subst p8e
    refine z_getP (pc2 := 44) rfl rfl rfl rfl tb2.1 ?_
    intro p9 p9e p9k
    clear p9k; replace p9e : p9 = some x4 := by rw [p9e]; first | exact p3e | exact Eq.symm p3e | (simp [zU]; first | done | exact p3e | exact Eq.symm p3e | omega)
    subst p9e
    refine z_getP (pc2 := 47) rfl rfl rfl rfl tx4.1 ?_
    intro p10 p10e p10k
    replace p10k : p10 = some (x4 + 6) := p10k; clear p10e; subst p10k
    refine z_iload_n (pc2 := 48) rfl rfl rfl ?_
    refine z_aald (pc2 := 49) rfl rfl tx4.2.2.2.2.2.2 rfl (by omega) (by omega) (by omega) ?_
    intro p11 p11e p11k
    rcases p11k with rfl | ⟨q12, rfl, q129, tq12⟩
    ·
      obtain ⟨q9, h9⟩ := (hcr.2.2 _ ix4).2.2 (w5).toNat (by omega); rw [← p11e] at h9; cases h9
    ·
      replace tq12 : _ = ((1, 2, [1]) : zT) := tq12
      refine zB_le tq12 trivial (fun q12l => ?_)
      refine z_aload_n (pc2 := 50) rfl rfl rfl ?_
      refine z_getP (pc2 := 53) rfl rfl rfl rfl t1 ?_
      intro p13 p13e p13k
      replace p13k : p13 = some 3 := p13k; clear p13e; subst p13k
      refine z_callV (y2 := 35) (as := [_]) (rest := []) (pc2 := 56) rfl rfl rfl rfl tq12 rfl ?_
      refine c_Forme_impression hn hC tq12 (by omega) (by simp [zU]) (fun g14 I14 G14 z14 => ?_)
      show zB _ _ _ _ _ _ [_] _ _
      refine z_lret rfl rfl ?_
      exact hK _ _ _ _ _ _ _ (zCP_q ⟨zTn_rf, (zQi_t (zQi_u (zQi_u zQi_rf (by unfold zIr; omega)) (by unfold zIr; omega)) (zQi_tr z14)), zQp_rf⟩ (zTm_rf _)) (by omega)
  ·
    refine z_aload_n (pc2 := 17) rfl rfl rfl ?_
    refine z_iconst (pc2 := 18) rfl rfl ?_
    refine z_callV (y2 := 142) (as := [_]) (rest := []) (pc2 := 21) rfl rfl rfl rfl t1 rfl ?_
    refine z_inl ?_
    refine z_lv (lv2 := [(0, _), (1, _)]) ⟨rfl, rfl, trivial⟩ ?_
    refine z_aload_n (pc2 := 1) rfl rfl rfl ?_
    refine z_iload_n (pc2 := 2) rfl rfl rfl ?_
    refine z_putI (pc2 := 5) rfl rfl rfl rfl rfl rfl t1 (by omega) True.intro ?_
    refine z_iload_n (pc2 := 6) rfl rfl rfl ?_
    refine z_iret rfl rfl ?_
    show zB _ _ _ _ _ _ [_] _ _
    refine z_pop (pc2 := 22) rfl rfl rfl ?_
    refine z_lconst 0 (pc2 := 23) rfl rfl rfl ?_
    refine z_lret rfl rfl ?_
    exact hK _ _ _ _ _ _ _ (zCP_q ⟨zTn_rf, (zQi_u zQi_rf (by unfold zIr; omega)), zQp_rf⟩ (zTm_rf _)) (by omega)
set_option maxHeartbeats 8000000 in
theorem cl_Floor_removeForme2 {L : Nat} {xs : Nat → Int32} {n sl : Nat} {T : Nat → zT} {I : Nat → Nat → Int} {P : Nat → Nat → Option Nat} {K : List zV → zH → Prop} {u s : Int} {x : Nat} (hn : 90 ≤ n) (hC : ∀ a, 1 ≤ a → a ≤ 55 → T a = zFixC a) (hu : 1 ≤ u ∧ u ≤ 12) (ix : x = 23 ∨ x = 30 ∨ x = 42 ∨ x = 49) (hu : I x 10 = u) (hK : ∀ e I2 P2 G2, (∀ a k, a ≠ x + 1 → ¬ (a = x ∧ k = 10) → I2 a k = I a k) → I2 x 10 = I x 10 - 1 → zSh x (I x 10) P P2 → K [.inl e] (n, sl, T, I2, P2, G2)) (m : Nat) : ∀ (P2 : Nat → Nat → Option Nat) (G2 : Nat → Nat → Int), ∀ (k : Int), 1 ≤ k ∧ k ≤ 12 → zSh x u P P2 → (12 - k).toNat < m → zB zMd L xs 33 55 [(0, .inr (.inl (some x))), (2, .inl s), (3, .inl k)] [] (n, sl, T, I, P2, G2) K := by
  have tx := zFl_t hC ix
  induction m with
  | zero => intro P2 G2 k hk hI2 hm; omega
  | succ m ih =>
    intro P2 G2 k hk hI2 hm
    refine z_iload_n (pc2 := 56) rfl rfl rfl ?_
    refine z_aload_n (pc2 := 57) rfl rfl rfl ?_
    refine z_getI (pc2 := 60) 0 rfl rfl rfl rfl rfl tx.1 ?_
    intro v1 e1 r1 k1
    replace k1 : (0 : Int) ≤ v1 ∧ v1 ≤ 12 := k1
    replace e1 : u = v1 := by rw [e1]; first | exact hu | exact Eq.symm hu | (simp [zU]; first | done | exact hu | exact Eq.symm hu | omega)
    subst e1
    refine z_icmp_ge (t := 83) (pc2 := 63) rfl rfl rfl (by omega) (by omega) (fun c2 => ?_) (fun c2 => ?_)
    ·
      refine z_aload_n (pc2 := 84) rfl rfl rfl ?_
      refine z_dup (pc2 := 85) rfl rfl rfl ?_
      refine z_getI (pc2 := 88) 0 rfl rfl rfl rfl rfl tx.1 ?_
      intro v3 e3 r3 k3
      replace k3 : (0 : Int) ≤ v3 ∧ v3 ≤ 12 := k3
      replace e3 : u = v3 := by rw [e3]; first | exact hu | exact Eq.symm hu | (simp [zU]; first | done | exact hu | exact Eq.symm hu | omega)
      subst e3
      refine z_iconst (pc2 := 89) rfl rfl ?_
      refine z_isub (pc2 := 90) rfl rfl ?_
      refine z_putI (pc2 := 93) rfl rfl rfl rfl rfl rfl tx.1 (by omega) (by show (0 : Int) ≤ _ ∧ _ ≤ 12; omega) ?_
      refine z_iload_n (pc2 := 94) rfl rfl rfl ?_
      refine z_iret rfl rfl ?_
      exact hK _ _ _ _ (fun a k h1 h2 => by simp [zU, h2]) (by simp [zU, hu]) (by rw [hu]; exact hI2)
    ·
      refine z_aload_n (pc2 := 64) rfl rfl rfl ?_
      refine z_getP (pc2 := 67) rfl rfl rfl rfl tx.1 ?_
      intro p4 p4e p4k
      replace p4k : p4 = some (x + 6) := p4k; clear p4e; subst p4k
      refine z_iload_n (pc2 := 68) rfl rfl rfl ?_
      refine z_iconst (pc2 := 69) rfl rfl ?_
      refine z_isub (pc2 := 70) rfl rfl ?_
      refine z_aload_n (pc2 := 71) rfl rfl rfl ?_
      refine z_getP (pc2 := 74) rfl rfl rfl rfl tx.1 ?_
      intro p5 p5e p5k
      replace p5k : p5 = some (x + 6) := p5k; clear p5e; subst p5k
      refine z_iload_n (pc2 := 75) rfl rfl rfl ?_
      refine z_aald (pc2 := 76) rfl rfl tx.2.2.2.2.2.2 rfl (by omega) (by omega) (by omega) ?_
      intro p6 p6e p6k
      rcases p6k with rfl | ⟨q7, rfl, q79, tq7⟩
      ·
        obtain ⟨q9, h9⟩ := hI2.2 (k).toNat (by omega); rw [← p6e] at h9; cases h9
      ·
        replace tq7 : _ = ((1, 2, [1]) : zT) := tq7
        refine zB_le tq7 trivial (fun q7l => ?_)
        refine z_aast (pc2 := 77) rfl rfl tx.2.2.2.2.2.2 rfl (by omega) (by omega) (by omega) (fun b hb => by cases hb; rw [tq7]; exact ⟨_, rfl, rfl⟩) (Or.inr ⟨_, rfl, by omega, tq7⟩) ?_
        refine z_iinc (lv2 := [(3, _), (0, _), (2, _)]) (pc2 := 80) rfl rfl rfl rfl rfl ?_
        refine z_goto (pc2 := 55) rfl rfl ?_
        refine z_lv (lv2 := [(0, _), (2, _), (3, _)]) ⟨rfl, rfl, rfl, trivial⟩ ?_
        exact ih _ _ _ (by omega) (zSh_u hI2) (by omega)
set_option maxHeartbeats 8000000 in
theorem cl_Floor_removeForme1 {L : Nat} {xs : Nat → Int32} {n sl : Nat} {T : Nat → zT} {I : Nat → Nat → Int} {P : Nat → Nat → Option Nat} {K : List zV → zH → Prop} {a u w : Int} {x ar : Nat} (hn : 90 ≤ n) (hC : ∀ a, 1 ≤ a → a ≤ 55 → T a = zFixC a) (ha : 0 ≤ a ∧ a ≤ 11) (hu : 1 ≤ u ∧ u ≤ 12) (hw : 0 ≤ w ∧ w ≤ 89) (ix : x = 23 ∨ x = 30 ∨ x = 42 ∨ x = 49) (hfl : zFlr T I P x) (hu : I x 10 = u) (hau : a < u) (ta : T ar = (2, 6, [w, 2])) (al : ar ≤ n) (hK : ∀ e I2 P2 G2, (∀ a k, a ≠ x + 1 → ¬ (a = x ∧ k = 10) → I2 a k = I a k) → I2 x 10 = I x 10 - 1 → zSh x (I x 10) P P2 → K [.inl e] (n, sl, T, I2, P2, G2)) (m : Nat) : ∀ (I2 : Nat → Nat → Int) (G2 : Nat → Nat → Int), ∀ (s k : Int), 0 ≤ k ∧ k ≤ 89 → (∀ a k, a ≠ x + 1 → I2 a k = I a k) → (89 - k).toNat < m → zB zMd L xs 33 19 [(0, .inr (.inl (some x))), (1, .inl a), (2, .inl s), (3, .inr (.inl (some ar))), (4, .inl w), (5, .inl k)] [] (n, sl, T, I2, P, G2) K := by
  have tx := zFl_t hC ix
  induction m with
  | zero => intro I2 G2 s k hk hI2 hm; omega
  | succ m ih =>
    intro I2 G2 s k hk hI2 hm
    refine z_iload (pc2 := 21) rfl rfl rfl ?_
    refine z_iload (pc2 := 23) rfl rfl rfl ?_
    refine z_icmp_ge (t := 51) (pc2 := 26) rfl rfl rfl (by omega) (by omega) (fun c1 => ?_) (fun c1 => ?_)
    ·
      refine z_iload_n (pc2 := 52) rfl rfl rfl ?_
      refine z_iconst (pc2 := 53) rfl rfl ?_
      refine z_iadd (pc2 := 54) rfl rfl ?_
      refine z_istore_n (lv2 := [(3, _), (0, _), (1, _), (2, _), (4, _), (5, _)]) (pc2 := 55) rfl rfl rfl rfl ?_
      refine z_lv (lv2 := [(0, _), (2, _), (3, _)]) ⟨rfl, rfl, rfl, trivial⟩ ?_
      exact cl_Floor_removeForme2 (u := u) hn hC (by omega) ix ((hI2 x 10 (by omega)).trans hu) (fun e I9 P9 G9 h1 h2 h3 => hK e I9 P9 G9 (fun a k a1 a2 => (h1 a k a1 a2).trans (hI2 a k a1)) (by rw [h2, hI2 x 10 (by omega)]) (by rw [hI2 x 10 (by omega)] at h3; exact h3)) _ _ _ _ (by omega) ⟨fun _ _ _ => rfl, fun j hj => hfl.2.2 j (by omega)⟩ (Nat.lt_succ_self _)
    ·
      refine z_aload_n (pc2 := 27) rfl rfl rfl ?_
      refine z_iload (pc2 := 29) rfl rfl rfl ?_
      refine z_aald (pc2 := 30) rfl rfl ta rfl (by omega) (by omega) (by omega) ?_
      intro p2 p2e p2k
      obtain ⟨q3, rfl, q39, tq3⟩ := p2k (by omega)
      replace tq3 : _ = ((1, 4, [1]) : zT) := tq3
      refine zB_le tq3 trivial (fun q3l => ?_)
      refine z_astore (lv2 := [(6, _), (0, _), (1, _), (2, _), (3, _), (4, _), (5, _)]) (pc2 := 32) rfl rfl rfl rfl ?_
      refine z_iload_n (pc2 := 33) rfl rfl rfl ?_
      refine z_aload (pc2 := 35) rfl rfl rfl ?_
      refine z_aload_n (pc2 := 36) rfl rfl rfl ?_
      refine z_getP (pc2 := 39) rfl rfl rfl rfl tx.1 ?_
      intro p4 p4e p4k
      replace p4k : p4 = some (x + 1) := p4k; clear p4e; subst p4k
      refine z_iconst (pc2 := 40) rfl rfl ?_
      refine z_callV (y2 := 50) (as := [_, _]) (rest := [_]) (pc2 := 43) rfl rfl rfl rfl tq3 rfl ?_
      refine c_Line_moveSorts hn hC (by omega) tq3 (by omega) tx.2.1 (by omega) (fun w5 I5 G5 f5 => ?_)
      replace f5 := fun a k h => (f5 a k h).trans (hI2 a k h)
      show zB _ _ _ _ _ _ [_, _] _ _
      refine z_iadd (pc2 := 44) rfl rfl ?_
      refine z_istore_n (lv2 := [(2, _), (6, _), (0, _), (1, _), (3, _), (4, _), (5, _)]) (pc2 := 45) rfl rfl rfl rfl ?_
      refine z_iinc (lv2 := [(5, _), (2, _), (6, _), (0, _), (1, _), (3, _), (4, _)]) (pc2 := 48) rfl rfl rfl rfl rfl ?_
      refine z_goto (pc2 := 19) rfl rfl ?_
      refine z_lv (lv2 := [(0, _), (1, _), (2, _), (3, _), (4, _), (5, _)]) ⟨rfl, rfl, rfl, rfl, rfl, rfl, trivial⟩ ?_
      exact ih _ _ _ _ (by omega) (by assumption) (by omega)
set_option maxHeartbeats 8000000 in
theorem c_Floor_removeForme {L : Nat} {xs : Nat → Int32} {n sl : Nat} {T : Nat → zT} {I : Nat → Nat → Int} {P : Nat → Nat → Option Nat} {G : Nat → Nat → Int} {K : List zV → zH → Prop} {a : Int} {x : Nat} (hn : 90 ≤ n) (hC : ∀ a, 1 ≤ a → a ≤ 55 → T a = zFixC a) (ha : 0 ≤ a ∧ a ≤ 11) (ix : x = 23 ∨ x = 30 ∨ x = 42 ∨ x = 49) (hfl : zFlr T I P x) (hau : a < I x 10) (hK : ∀ e I2 P2 G2, (∀ a k, a ≠ x + 1 → ¬ (a = x ∧ k = 10) → I2 a k = I a k) → I2 x 10 = I x 10 - 1 → zSh x (I x 10) P P2 → K [.inl e] (n, sl, T, I2, P2, G2)) : zX zMd L xs 33 [.inr (.inl (some x)), .inl a] (n, sl, T, I, P, G) K := by
  have tx := zFl_t hC ix
  refine zX_wf2 (fun hw => ?_)
  have b10 : 0 ≤ I x 10 ∧ I x 10 ≤ 12 := by have h1 := hw.2.1 x 10; rw [show (n, sl, T, I, P, G).2.2.1 x = T x from rfl, tx.1] at h1; exact h1
  have tx := zFl_t hC ix
  refine z_inl ?_
  refine z_lv (lv2 := [(0, _), (1, _)]) ⟨rfl, rfl, trivial⟩ ?_
  refine z_iconst (pc2 := 1) rfl rfl ?_
  refine z_istore_n (lv2 := [(2, _), (0, _), (1, _)]) (pc2 := 2) rfl rfl rfl rfl ?_
  refine z_aload_n (pc2 := 3) rfl rfl rfl ?_
  refine z_getP (pc2 := 6) rfl rfl rfl rfl tx.1 ?_
  intro p1 p1e p1k
  replace p1k : p1 = some (x + 6) := p1k; clear p1e; subst p1k
  refine z_iload_n (pc2 := 7) rfl rfl rfl ?_
  refine z_aald (pc2 := 8) rfl rfl tx.2.2.2.2.2.2 rfl (by omega) (by omega) (by omega) ?_
  intro p2 p2e p2k
  rcases p2k with rfl | ⟨q3, rfl, q39, tq3⟩
  ·
    obtain ⟨q9, h9⟩ := hfl.2.2 (a).toNat (by omega); rw [← p2e] at h9; cases h9
  ·
    replace tq3 : _ = ((1, 2, [1]) : zT) := tq3
    refine zB_le tq3 trivial (fun q3l => ?_)
    refine z_getP (pc2 := 11) rfl rfl rfl rfl tq3 ?_
    intro p4 p4e p4k
    obtain ⟨q5, rfl, q59, m6, tq5, q5b⟩ := p4k
    replace tq5 : _ = ((2, 6, [(m6), 2]) : zT) := tq5
    refine zB_le tq5 trivial (fun q5l => ?_)
    refine z_astore_n (lv2 := [(3, _), (2, _), (0, _), (1, _)]) (pc2 := 12) rfl rfl rfl rfl ?_
    refine z_aload_n (pc2 := 13) rfl rfl rfl ?_
    refine z_alen (pc2 := 14) rfl rfl tq5 rfl (by omega) ?_
    refine z_istore (lv2 := [(4, _), (3, _), (2, _), (0, _), (1, _)]) (pc2 := 16) rfl rfl rfl rfl ?_
    refine z_iconst (pc2 := 17) rfl rfl ?_
    refine z_istore (lv2 := [(5, _), (4, _), (3, _), (2, _), (0, _), (1, _)]) (pc2 := 19) rfl rfl rfl rfl ?_
    refine z_lv (lv2 := [(0, _), (1, _), (2, _), (3, _), (4, _), (5, _)]) ⟨rfl, rfl, rfl, rfl, rfl, rfl, trivial⟩ ?_
    exact cl_Floor_removeForme1 (u := I x 10) hn hC (by omega) (by omega) (by omega) ix hfl rfl hau tq5 (by omega) hK _ _ _ _ _ (by omega) (fun _ _ _ => rfl) (Nat.lt_succ_self _)
set_option maxHeartbeats 8000000 in
theorem c_TypeRoom_distribute {L : Nat} {xs : Nat → Int32} {n sl : Nat} {T : Nat → zT} {I : Nat → Nat → Int} {P : Nat → Nat → Option Nat} {G : Nat → Nat → Int} {K : List zV → zH → Prop} {a : Int} (hn : 90 ≤ n) (hC : ∀ a, 1 ≤ a → a ≤ 55 → T a = zFixC a) (ha : zR a) (hcr : zCR T I P) (hK : ∀ e n2 sl2 T2 I2 P2 G2, zCP n T T2 I I2 P P2 → (n ≤ n2 ∧ n2 ≤ n + 0 ∧ sl2 ≤ sl + 0) → K [.inl e] (n2, sl2, T2, I2, P2, G2)) : zX zMd L xs 136 [.inr (.inl (some 1)), .inl a] (n, sl, T, I, P, G) K := by
  have t1 : T 1 = (1, 11, [1]) := hC 1 (by decide) (by decide)
  refine z_inl ?_
  refine z_lv (lv2 := [(0, _), (1, _)]) ⟨rfl, rfl, trivial⟩ ?_
  refine z_aload_n (pc2 := 1) rfl rfl rfl ?_
  refine z_getP (pc2 := 4) rfl rfl rfl rfl t1 ?_
  intro p1 p1e p1k
  obtain ⟨b2, rfl, hb2⟩ := zHere p1k
  have tb2 := zRm_t hC hb2
  refine z_getP (pc2 := 7) rfl rfl rfl rfl tb2.1 ?_
  intro p3 p3e p3k
  obtain ⟨x4, rfl, hx4⟩ := zFloorOf p3k
  have ix4 : x4 = 23 ∨ x4 = 30 ∨ x4 = 42 ∨ x4 = 49 := by omega
  have tx4 := zFl_t hC ix4
  refine z_iload_n (pc2 := 8) rfl rfl rfl ?_
  refine z_callV (y2 := 32) (as := [_]) (rest := []) (pc2 := 11) rfl rfl rfl rfl tx4.1 rfl ?_
  refine c_Floor_placeOfForme hn hC (by omega) ix4 (hcr.2.2 _ ix4) (fun w5 w5r w5v => ?_)
  show zB _ _ _ _ _ _ [_] _ _
  refine z_istore_n (lv2 := [(2, _), (0, _), (1, _)]) (pc2 := 12) rfl rfl rfl rfl ?_
  refine z_iload_n (pc2 := 13) rfl rfl rfl ?_
  refine z_if_ge (t := 22) (pc2 := 16) rfl rfl rfl (by omega) (fun c6 => ?_) (fun c6 => ?_)
  ·
    refine z_aload_n (pc2 := 23) rfl rfl rfl ?_
    refine z_getP (pc2 := 26) rfl rfl rfl rfl t1 ?_
    intro p7 p7e p7k
    clear p7k; replace p7e : p7 = some b2 := by rw [p7e]; first | exact p1e | exact Eq.symm p1e | (simp [zU]; first | done | exact p1e | exact Eq.symm p1e | omega)
    subst p7e
    refine z_callV (y2 := 77) (as := []) (rest := []) (pc2 := 29) rfl rfl rfl rfl tb2.1 rfl ?_
    have c8 := hcr
    obtain ⟨z8, hz8, hd8⟩ := zCR_z c8 hb2 (Eq.symm p3e)
    have iz8 : z8 = 23 ∨ z8 = 30 ∨ z8 = 42 ∨ z8 = 49 := by omega
    refine c_Room_keep hn hC hb2 ix4 iz8 (by omega) (c8.2.2 _ ix4) (Eq.symm p3e) hz8 (fun I8 P8 G8 k8 f8 => ?_)
    show zB _ _ _ _ _ _ [] _ _
    refine z_aload_n (pc2 := 30) rfl rfl rfl ?_
    refine z_aload_n (pc2 := 31) rfl rfl rfl ?_
    refine z_getP (pc2 := 34) rfl rfl rfl rfl t1 ?_
    intro p9 p9e p9k
    clear p9k; replace p9e : p9 = some b2 := by rw [p9e]; first | exact (Eq.trans p1e (Eq.symm (k8.2 _ _ (by omega)))) | exact Eq.symm (Eq.trans p1e (Eq.symm (k8.2 _ _ (by omega)))) | (simp [zU]; first | done | exact (Eq.trans p1e (Eq.symm (k8.2 _ _ (by omega)))) | exact Eq.symm (Eq.trans p1e (Eq.symm (k8.2 _ _ (by omega)))) | omega)
    subst p9e
    refine z_getP (pc2 := 37) rfl rfl rfl rfl tb2.1 ?_
    intro p10 p10e p10k
    clear p10k; replace p10e : p10 = some x4 := by rw [p10e]; first | exact (Eq.trans p3e (Eq.symm (k8.2 _ _ (by omega)))) | exact Eq.symm (Eq.trans p3e (Eq.symm (k8.2 _ _ (by omega)))) | (simp [zU]; first | done | exact (Eq.trans p3e (Eq.symm (k8.2 _ _ (by omega)))) | exact Eq.symm (Eq.trans p3e (Eq.symm (k8.2 _ _ (by omega)))) | omega)
    subst p10e
    refine z_iload_n (pc2 := 38) rfl rfl rfl ?_
    refine z_callV (y2 := 33) (as := [_]) (rest := [_]) (pc2 := 41) rfl rfl rfl rfl tx4.1 rfl ?_
    refine c_Floor_removeForme hn hC (by omega) ix4 (zFlr_k2 (hcr.2.2 _ ix4) ix4 iz8 hb2 (by omega) k8) (by rw [k8.1 x4 10 (by omega) (by omega) (by omega) (by omega)]; omega) (fun w11 I11 P11 G11 f11 a11 b11 => ?_)
    show zB _ _ _ _ _ _ [_, _] _ _
    refine z_callV (y2 := 144) (as := [_]) (rest := []) (pc2 := 44) rfl rfl rfl rfl t1 rfl ?_
    refine z_inl ?_
    refine z_lv (lv2 := [(0, _), (1, _)]) ⟨rfl, rfl, trivial⟩ ?_
    refine z_aload_n (pc2 := 1) rfl rfl rfl ?_
    refine z_iconst (pc2 := 2) rfl rfl ?_
    refine z_putI (pc2 := 5) rfl rfl rfl rfl rfl rfl t1 (by omega) True.intro ?_
    refine z_iload_n (pc2 := 6) rfl rfl rfl ?_
    refine z_iret rfl rfl ?_
    show zB _ _ _ _ _ _ [_] _ _
    refine z_iret rfl rfl ?_
    exact hK _ _ _ _ _ _ _ (zCP_tr (m := n) (zCP_tr (m := n) (zCP_tr (m := n) (zCP_keep2 (n := n) iz8 hb2 k8 f8) (zCP_q ⟨zTn_rf, zQi_rf, zQp_rf⟩ (zTm_rf _)) (by omega)) (zCP_fo ix4 f11 a11 b11) (by omega)) (zCP_q ⟨zTn_rf, (zQi_u zQi_rf (by unfold zIr; omega)), zQp_rf⟩ (zTm_rf _)) (by omega)) (by omega)
  ·
    refine z_aload_n (pc2 := 17) rfl rfl rfl ?_
    refine z_iconst (pc2 := 18) rfl rfl ?_
    refine z_callV (y2 := 142) (as := [_]) (rest := []) (pc2 := 21) rfl rfl rfl rfl t1 rfl ?_
    refine z_inl ?_
    refine z_lv (lv2 := [(0, _), (1, _)]) ⟨rfl, rfl, trivial⟩ ?_
    refine z_aload_n (pc2 := 1) rfl rfl rfl ?_
    refine z_iload_n (pc2 := 2) rfl rfl rfl ?_
    refine z_putI (pc2 := 5) rfl rfl rfl rfl rfl rfl t1 (by omega) True.intro ?_
    refine z_iload_n (pc2 := 6) rfl rfl rfl ?_
    refine z_iret rfl rfl ?_
    show zB _ _ _ _ _ _ [_] _ _
    refine z_iret rfl rfl ?_
    exact hK _ _ _ _ _ _ _ (zCP_q ⟨zTn_rf, (zQi_u zQi_rf (by unfold zIr; omega)), zQp_rf⟩ (zTm_rf _)) (by omega)
