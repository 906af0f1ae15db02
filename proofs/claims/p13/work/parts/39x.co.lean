/-! the class: justifying, sorts and calls are made -/
set_option maxHeartbeats 8000000 in
theorem c_Composer_justify {L : Nat} {xs : Nat → Int32} {n sl : Nat} {T : Nat → zT} {I : Nat → Nat → Int} {P : Nat → Nat → Option Nat} {G : Nat → Nat → Int} {K : List zV → zH → Prop} {u z un : Int} {fo : Nat} (hn : 90 ≤ n) (hC : ∀ a, 1 ≤ a → a ≤ 55 → T a = zFixC a) (hz : 0 ≤ z ∧ z ≤ 1) (hun : 0 ≤ un ∧ un ≤ 24) (hrd : P 9 6 = some 5) (hcf : P 9 7 = some fo) (tfo : T fo = (1, 3, [un])) (fol : fo ≤ n) (fo9 : 91 ≤ fo) (hK : ∀ e I2, zJf I I2 → K [.inl e] (n, sl, T, I2, P, G)) : zX zMd L xs 16 [.inr (.inl (some 9)), .inl u, .inl z] (n, sl, T, I, P, G) K := by
  have t9 : T 9 = (1, 0, [1]) := hC 9 (by decide) (by decide)
  refine z_inl ?_
  refine z_lv (lv2 := [(0, _), (1, _), (2, _)]) ⟨rfl, rfl, rfl, trivial⟩ ?_
  refine z_aload_n (pc2 := 1) rfl rfl rfl ?_
  refine z_iconst (pc2 := 2) rfl rfl ?_
  refine z_putI (pc2 := 5) rfl rfl rfl rfl rfl rfl t9 (by omega) True.intro ?_
  refine z_aload_n (pc2 := 6) rfl rfl rfl ?_
  refine z_iconst (pc2 := 7) rfl rfl ?_
  refine z_putI (pc2 := 10) rfl rfl rfl rfl rfl rfl t9 (by omega) True.intro ?_
  refine z_aload_n (pc2 := 11) rfl rfl rfl ?_
  refine z_iconst (pc2 := 12) rfl rfl ?_
  refine z_putI (pc2 := 15) rfl rfl rfl rfl rfl rfl t9 (by omega) True.intro ?_
  refine z_aload_n (pc2 := 16) rfl rfl rfl ?_
  refine z_callV (y2 := 12) (as := []) (rest := []) (pc2 := 19) rfl rfl rfl rfl t9 rfl ?_
  refine z_inl ?_
  refine z_lv (lv2 := [(0, _)]) ⟨rfl, trivial⟩ ?_
  refine z_aload_n (pc2 := 1) rfl rfl rfl ?_
  refine z_getI (pc2 := 4) 0 rfl rfl rfl rfl rfl t9 ?_
  intro v1 e1 r1 k1
  replace k1 : (0 : Int) ≤ v1 ∧ v1 ≤ 100 := k1
  refine z_iconst (pc2 := 5) rfl rfl ?_
  refine z_aload_n (pc2 := 6) rfl rfl rfl ?_
  refine z_getI (pc2 := 9) 0 rfl rfl rfl rfl rfl t9 ?_
  intro v2 e2 r2 k2
  replace k2 : (0 : Int) ≤ v2 ∧ v2 ≤ 100 := k2
  refine z_imul (pc2 := 10) rfl rfl ?_
  refine z_iadd (pc2 := 11) rfl rfl ?_
  refine z_iret rfl rfl ?_
  show zB _ _ _ _ _ _ [_] _ _
  refine z_istore_n (lv2 := [(3, _), (0, _), (1, _), (2, _)]) (pc2 := 20) rfl rfl rfl rfl ?_
  refine z_aload_n (pc2 := 21) rfl rfl rfl ?_
  refine z_iload_n (pc2 := 22) rfl rfl rfl ?_
  refine z_callV (y2 := 13) (as := [_]) (rest := []) (pc2 := 25) rfl rfl rfl rfl t9 rfl ?_
  refine z_inl ?_
  refine z_lv (lv2 := [(0, _), (1, _)]) ⟨rfl, rfl, trivial⟩ ?_
  refine z_iload_n (pc2 := 1) rfl rfl rfl ?_
  refine z_aload_n (pc2 := 2) rfl rfl rfl ?_
  refine z_getP (pc2 := 5) rfl rfl rfl rfl t9 ?_
  intro p3 p3e p3k
  clear p3k; replace p3e : p3 = some fo := by rw [p3e]; first | exact hcf | exact Eq.symm hcf | (simp [zU]; first | done | exact hcf | exact Eq.symm hcf | omega) | (refine Eq.trans (congrArg _ ?_) (Eq.symm hcf); omega)
  subst p3e
  refine z_getI (pc2 := 8) 0 rfl rfl rfl rfl rfl tfo ?_
  intro v4 e4 r4 k4
  clear k4
  clear e4
  refine z_ineg (pc2 := 9) rfl rfl ?_
  refine z_aload_n (pc2 := 10) rfl rfl rfl ?_
  refine z_getI (pc2 := 13) 0 rfl rfl rfl rfl rfl t9 ?_
  intro v5 e5 r5 k5
  replace k5 : (0 : Int) ≤ v5 ∧ v5 ≤ 100 := k5
  replace e5 : v1 = v5 := by rw [e5]; first | exact e1 | exact Eq.symm e1 | (simp [zU]; first | done | exact e1 | exact Eq.symm e1 | omega) | (refine Eq.trans (congrArg _ ?_) (Eq.symm e1); omega)
  subst e5
  refine z_imul (pc2 := 14) rfl rfl ?_
  refine z_icmp_any (t := 21) (pc2 := 17) rfl rfl rfl ?_ ?_
  ·
    refine z_iconst (pc2 := 22) rfl rfl ?_
    refine z_zret rfl rfl (by omega) ?_
    show zB _ _ _ _ _ _ [_] _ _
    refine z_if_ne (t := 42) (pc2 := 28) rfl rfl rfl (by omega) (fun c7 => by exfalso; omega) (fun c7 => ?_)
    refine z_aload_n (pc2 := 29) rfl rfl rfl ?_
    refine z_aload_n (pc2 := 30) rfl rfl rfl ?_
    refine z_getP (pc2 := 33) rfl rfl rfl rfl t9 ?_
    intro p8 p8e p8k
    clear p8k; replace p8e : p8 = some fo := by rw [p8e]; first | exact hcf | exact Eq.symm hcf | (simp [zU]; first | done | exact hcf | exact Eq.symm hcf | omega) | (refine Eq.trans (congrArg _ ?_) (Eq.symm hcf); omega)
    subst p8e
    refine z_getI (pc2 := 36) 0 rfl rfl rfl rfl rfl tfo ?_
    intro v9 e9 r9 k9
    clear k9
    clear e9
    refine z_ineg (pc2 := 37) rfl rfl ?_
    refine z_putI_any (pc2 := 40) rfl rfl rfl rfl rfl rfl t9 (fun _ _ => True.intro) (fun u10 u10r => ?_)
    refine z_iconst (pc2 := 41) rfl rfl ?_
    refine z_iret rfl rfl ?_
    exact hK _ _ (by repeat (first | exact zJf_rf | assumption | refine zJf_u ?_ (by decide)))
  ·
    refine z_iconst (pc2 := 18) rfl rfl ?_
    refine z_goto (pc2 := 22) rfl rfl ?_
    refine z_zret rfl rfl (by omega) ?_
    show zB _ _ _ _ _ _ [_] _ _
    refine z_if_ne (t := 42) (pc2 := 28) rfl rfl rfl (by omega) (fun c11 => ?_) (fun c11 => by exfalso; omega)
    refine z_iload_n (pc2 := 43) rfl rfl rfl ?_
    refine z_if_any (t := 54) (pc2 := 46) rfl rfl rfl ?_ ?_
    ·
      refine z_iconst (pc2 := 55) rfl rfl ?_
      refine z_iret rfl rfl ?_
      exact hK _ _ (by repeat (first | exact zJf_rf | assumption | refine zJf_u ?_ (by decide)))
    ·
      refine z_iload_n (pc2 := 47) rfl rfl rfl ?_
      refine z_if_eq (t := 56) (pc2 := 50) rfl rfl rfl (by omega) (fun c12 => ?_) (fun c12 => ?_)
      ·
        refine z_iload_n (pc2 := 57) rfl rfl rfl ?_
        refine z_if_any (t := 67) (pc2 := 60) rfl rfl rfl ?_ ?_
        ·
          refine z_iload_n (pc2 := 68) rfl rfl rfl ?_
          refine z_if_ne (t := 83) (pc2 := 71) rfl rfl rfl (by omega) (fun c13 => ?_) (fun c13 => ?_)
          ·
            refine z_aload_n (pc2 := 84) rfl rfl rfl ?_
            refine z_iload_n (pc2 := 85) rfl rfl rfl ?_
            refine z_iload_n (pc2 := 86) rfl rfl rfl ?_
            refine z_idiv (pc2 := 87) rfl rfl (z_ne0 (by omega) (by omega)) (fun r14 => ?_)
            refine z_putI (pc2 := 90) rfl rfl rfl rfl rfl rfl t9 (by omega) True.intro ?_
            refine z_aload_n (pc2 := 91) rfl rfl rfl ?_
            refine z_iload_n (pc2 := 92) rfl rfl rfl ?_
            refine z_iconst (pc2 := 93) rfl rfl ?_
            refine z_imul (pc2 := 94) rfl rfl ?_
            refine z_iload_n (pc2 := 95) rfl rfl rfl ?_
            refine z_idiv (pc2 := 96) rfl rfl (z_ne0 (by omega) (by omega)) (fun r16 => ?_)
            refine z_putI (pc2 := 99) rfl rfl rfl rfl rfl rfl t9 (by omega) True.intro ?_
            refine z_aload_n (pc2 := 100) rfl rfl rfl ?_
            refine z_iload_n (pc2 := 101) rfl rfl rfl ?_
            refine z_aload_n (pc2 := 102) rfl rfl rfl ?_
            refine z_getI (pc2 := 105) 0 rfl rfl rfl rfl rfl t9 ?_
            intro v18 e18 r18 k18
            replace k18 : (0 : Int) ≤ v18 ∧ v18 ≤ 100 := k18
            replace e18 : v1 = v18 := by rw [e18]; first | exact e1 | exact Eq.symm e1 | (simp [zU]; first | done | exact e1 | exact Eq.symm e1 | omega) | (refine Eq.trans (congrArg _ ?_) (Eq.symm e1); omega)
            subst e18
            refine z_aload_n (pc2 := 106) rfl rfl rfl ?_
            refine z_getI (pc2 := 109) 0 rfl rfl rfl rfl rfl t9 ?_
            intro v19 e19 r19 k19
            clear k19
            clear e19
            refine z_imul (pc2 := 110) rfl rfl ?_
            refine z_isub (pc2 := 111) rfl rfl ?_
            refine z_aload_n (pc2 := 112) rfl rfl rfl ?_
            refine z_getI (pc2 := 115) 0 rfl rfl rfl rfl rfl t9 ?_
            intro v21 e21 r21 k21
            replace k21 : (0 : Int) ≤ v21 ∧ v21 ≤ 100 := k21
            replace e21 : v2 = v21 := by rw [e21]; first | exact e2 | exact Eq.symm e2 | (simp [zU]; first | done | exact e2 | exact Eq.symm e2 | omega) | (refine Eq.trans (congrArg _ ?_) (Eq.symm e2); omega)
            subst e21
            refine z_aload_n (pc2 := 116) rfl rfl rfl ?_
            refine z_getI (pc2 := 119) 0 rfl rfl rfl rfl rfl t9 ?_
            intro v22 e22 r22 k22
            clear k22
            clear e22
            refine z_imul (pc2 := 120) rfl rfl ?_
            refine z_isub (pc2 := 121) rfl rfl ?_
            refine z_putI_any (pc2 := 124) rfl rfl rfl rfl rfl rfl t9 (fun _ _ => True.intro) (fun u24 u24r => ?_)
            refine z_iload_n (pc2 := 125) rfl rfl rfl ?_
            refine z_aload_n (pc2 := 126) rfl rfl rfl ?_
            refine z_getP (pc2 := 129) rfl rfl rfl rfl t9 ?_
            intro p25 p25e p25k
            clear p25k; replace p25e : p25 = some fo := by rw [p25e]; first | exact hcf | exact Eq.symm hcf | (simp [zU]; first | done | exact hcf | exact Eq.symm hcf | omega) | (refine Eq.trans (congrArg _ ?_) (Eq.symm hcf); omega)
            subst p25e
            refine z_getI (pc2 := 132) 0 rfl rfl rfl rfl rfl tfo ?_
            intro v26 e26 r26 k26
            clear k26
            clear e26
            refine z_iload_n (pc2 := 133) rfl rfl rfl ?_
            refine z_imul (pc2 := 134) rfl rfl ?_
            refine z_icmp_any (t := 141) (pc2 := 137) rfl rfl rfl ?_ ?_
            ·
              refine z_iconst (pc2 := 142) rfl rfl ?_
              refine z_iret rfl rfl ?_
              exact hK _ _ (by repeat (first | exact zJf_rf | assumption | refine zJf_u ?_ (by decide)))
            ·
              refine z_iconst (pc2 := 138) rfl rfl ?_
              refine z_goto (pc2 := 142) rfl rfl ?_
              refine z_iret rfl rfl ?_
              exact hK _ _ (by repeat (first | exact zJf_rf | assumption | refine zJf_u ?_ (by decide)))
          ·
            refine z_aload_n (pc2 := 72) rfl rfl rfl ?_
            refine z_dup (pc2 := 73) rfl rfl rfl ?_
            refine z_getI (pc2 := 76) 0 rfl rfl rfl rfl rfl t9 ?_
            intro v28 e28 r28 k28
            clear k28
            clear e28
            refine z_iconst (pc2 := 77) rfl rfl ?_
            refine z_iadd (pc2 := 78) rfl rfl ?_
            refine z_putI_any (pc2 := 81) rfl rfl rfl rfl rfl rfl t9 (fun _ _ => True.intro) (fun u29 u29r => ?_)
            refine z_iconst (pc2 := 82) rfl rfl ?_
            refine z_iret rfl rfl ?_
            exact hK _ _ (by repeat (first | exact zJf_rf | assumption | refine zJf_u ?_ (by decide)))
        ·
          refine z_aload_n (pc2 := 61) rfl rfl rfl ?_
          refine z_iload_n (pc2 := 62) rfl rfl rfl ?_
          refine z_callV (y2 := 17) (as := [_]) (rest := []) (pc2 := 65) rfl rfl rfl rfl t9 rfl ?_
          refine z_inl ?_
          refine z_lv (lv2 := [(0, _), (1, _)]) ⟨rfl, rfl, trivial⟩ ?_
          refine z_aload_n (pc2 := 1) rfl rfl rfl ?_
          refine z_getI (pc2 := 4) 0 rfl rfl rfl rfl rfl t9 ?_
          intro v30 e30 r30 k30
          replace k30 : (0 : Int) ≤ v30 ∧ v30 ≤ 100 := k30
          replace e30 : v1 = v30 := by rw [e30]; first | exact e1 | exact Eq.symm e1 | (simp [zU]; first | done | exact e1 | exact Eq.symm e1 | omega) | (refine Eq.trans (congrArg _ ?_) (Eq.symm e1); omega)
          subst e30
          refine z_if_le (t := 32) (pc2 := 7) rfl rfl rfl (by omega) (fun c31 => ?_) (fun c31 => ?_)
          ·
            refine z_ret rfl rfl ?_
            show zB _ _ _ _ _ _ [] _ _
            refine z_iconst (pc2 := 66) rfl rfl ?_
            refine z_iret rfl rfl ?_
            exact hK _ _ (by repeat (first | exact zJf_rf | assumption | refine zJf_u ?_ (by decide)))
          ·
            refine z_aload_n (pc2 := 8) rfl rfl rfl ?_
            refine z_iload_n (pc2 := 9) rfl rfl rfl ?_
            refine z_aload_n (pc2 := 10) rfl rfl rfl ?_
            refine z_getI (pc2 := 13) 0 rfl rfl rfl rfl rfl t9 ?_
            intro v32 e32 r32 k32
            replace k32 : (0 : Int) ≤ v32 ∧ v32 ≤ 100 := k32
            replace e32 : v1 = v32 := by rw [e32]; first | exact e1 | exact Eq.symm e1 | (simp [zU]; first | done | exact e1 | exact Eq.symm e1 | omega) | (refine Eq.trans (congrArg _ ?_) (Eq.symm e1); omega)
            subst e32
            refine z_idiv (pc2 := 14) rfl rfl (z_ne0 (by omega) (by omega)) (fun r33 => ?_)
            refine z_putI (pc2 := 17) rfl rfl rfl rfl rfl rfl t9 (by omega) True.intro ?_
            refine z_aload_n (pc2 := 18) rfl rfl rfl ?_
            refine z_iload_n (pc2 := 19) rfl rfl rfl ?_
            refine z_aload_n (pc2 := 20) rfl rfl rfl ?_
            refine z_getI (pc2 := 23) 0 rfl rfl rfl rfl rfl t9 ?_
            intro v35 e35 r35 k35
            replace k35 : (0 : Int) ≤ v35 ∧ v35 ≤ 100 := k35
            replace e35 : v1 = v35 := by rw [e35]; first | exact e1 | exact Eq.symm e1 | (simp [zU]; first | done | exact e1 | exact Eq.symm e1 | omega) | (refine Eq.trans (congrArg _ ?_) (Eq.symm e1); omega)
            subst e35
            refine z_aload_n (pc2 := 24) rfl rfl rfl ?_
            refine z_getI (pc2 := 27) 0 rfl rfl rfl rfl rfl t9 ?_
            intro v36 e36 r36 k36
            clear k36
            clear e36
            refine z_imul (pc2 := 28) rfl rfl ?_
            refine z_isub (pc2 := 29) rfl rfl ?_
            refine z_putI_any (pc2 := 32) rfl rfl rfl rfl rfl rfl t9 (fun _ _ => True.intro) (fun u38 u38r => ?_)
            refine z_ret rfl rfl ?_
            show zB _ _ _ _ _ _ [] _ _
            refine z_iconst (pc2 := 66) rfl rfl ?_
            refine z_iret rfl rfl ?_
            exact hK _ _ (by repeat (first | exact zJf_rf | assumption | refine zJf_u ?_ (by decide)))
      ·
        refine z_iload_n (pc2 := 51) rfl rfl rfl ?_
        refine z_if_any (t := 56) (pc2 := 54) rfl rfl rfl ?_ ?_
        ·
          refine z_iload_n (pc2 := 57) rfl rfl rfl ?_
          refine z_if_any (t := 67) (pc2 := 60) rfl rfl rfl ?_ ?_
          ·
            refine z_iload_n (pc2 := 68) rfl rfl rfl ?_
            refine z_if_ne (t := 83) (pc2 := 71) rfl rfl rfl (by omega) (fun c39 => ?_) (fun c39 => ?_)
            ·
              refine z_aload_n (pc2 := 84) rfl rfl rfl ?_
              refine z_iload_n (pc2 := 85) rfl rfl rfl ?_
              refine z_iload_n (pc2 := 86) rfl rfl rfl ?_
              refine z_idiv (pc2 := 87) rfl rfl (z_ne0 (by omega) (by omega)) (fun r40 => ?_)
              refine z_putI (pc2 := 90) rfl rfl rfl rfl rfl rfl t9 (by omega) True.intro ?_
              refine z_aload_n (pc2 := 91) rfl rfl rfl ?_
              refine z_iload_n (pc2 := 92) rfl rfl rfl ?_
              refine z_iconst (pc2 := 93) rfl rfl ?_
              refine z_imul (pc2 := 94) rfl rfl ?_
              refine z_iload_n (pc2 := 95) rfl rfl rfl ?_
              refine z_idiv (pc2 := 96) rfl rfl (z_ne0 (by omega) (by omega)) (fun r42 => ?_)
              refine z_putI (pc2 := 99) rfl rfl rfl rfl rfl rfl t9 (by omega) True.intro ?_
              refine z_aload_n (pc2 := 100) rfl rfl rfl ?_
              refine z_iload_n (pc2 := 101) rfl rfl rfl ?_
              refine z_aload_n (pc2 := 102) rfl rfl rfl ?_
              refine z_getI (pc2 := 105) 0 rfl rfl rfl rfl rfl t9 ?_
              intro v44 e44 r44 k44
              replace k44 : (0 : Int) ≤ v44 ∧ v44 ≤ 100 := k44
              replace e44 : v1 = v44 := by rw [e44]; first | exact e1 | exact Eq.symm e1 | (simp [zU]; first | done | exact e1 | exact Eq.symm e1 | omega) | (refine Eq.trans (congrArg _ ?_) (Eq.symm e1); omega)
              subst e44
              refine z_aload_n (pc2 := 106) rfl rfl rfl ?_
              refine z_getI (pc2 := 109) 0 rfl rfl rfl rfl rfl t9 ?_
              intro v45 e45 r45 k45
              clear k45
              clear e45
              refine z_imul (pc2 := 110) rfl rfl ?_
              refine z_isub (pc2 := 111) rfl rfl ?_
              refine z_aload_n (pc2 := 112) rfl rfl rfl ?_
              refine z_getI (pc2 := 115) 0 rfl rfl rfl rfl rfl t9 ?_
              intro v47 e47 r47 k47
              replace k47 : (0 : Int) ≤ v47 ∧ v47 ≤ 100 := k47
              replace e47 : v2 = v47 := by rw [e47]; first | exact e2 | exact Eq.symm e2 | (simp [zU]; first | done | exact e2 | exact Eq.symm e2 | omega) | (refine Eq.trans (congrArg _ ?_) (Eq.symm e2); omega)
              subst e47
              refine z_aload_n (pc2 := 116) rfl rfl rfl ?_
              refine z_getI (pc2 := 119) 0 rfl rfl rfl rfl rfl t9 ?_
              intro v48 e48 r48 k48
              clear k48
              clear e48
              refine z_imul (pc2 := 120) rfl rfl ?_
              refine z_isub (pc2 := 121) rfl rfl ?_
              refine z_putI_any (pc2 := 124) rfl rfl rfl rfl rfl rfl t9 (fun _ _ => True.intro) (fun u50 u50r => ?_)
              refine z_iload_n (pc2 := 125) rfl rfl rfl ?_
              refine z_aload_n (pc2 := 126) rfl rfl rfl ?_
              refine z_getP (pc2 := 129) rfl rfl rfl rfl t9 ?_
              intro p51 p51e p51k
              clear p51k; replace p51e : p51 = some fo := by rw [p51e]; first | exact hcf | exact Eq.symm hcf | (simp [zU]; first | done | exact hcf | exact Eq.symm hcf | omega) | (refine Eq.trans (congrArg _ ?_) (Eq.symm hcf); omega)
              subst p51e
              refine z_getI (pc2 := 132) 0 rfl rfl rfl rfl rfl tfo ?_
              intro v52 e52 r52 k52
              clear k52
              clear e52
              refine z_iload_n (pc2 := 133) rfl rfl rfl ?_
              refine z_imul (pc2 := 134) rfl rfl ?_
              refine z_icmp_any (t := 141) (pc2 := 137) rfl rfl rfl ?_ ?_
              ·
                refine z_iconst (pc2 := 142) rfl rfl ?_
                refine z_iret rfl rfl ?_
                exact hK _ _ (by repeat (first | exact zJf_rf | assumption | refine zJf_u ?_ (by decide)))
              ·
                refine z_iconst (pc2 := 138) rfl rfl ?_
                refine z_goto (pc2 := 142) rfl rfl ?_
                refine z_iret rfl rfl ?_
                exact hK _ _ (by repeat (first | exact zJf_rf | assumption | refine zJf_u ?_ (by decide)))
            ·
              refine z_aload_n (pc2 := 72) rfl rfl rfl ?_
              refine z_dup (pc2 := 73) rfl rfl rfl ?_
              refine z_getI (pc2 := 76) 0 rfl rfl rfl rfl rfl t9 ?_
              intro v54 e54 r54 k54
              clear k54
              clear e54
              refine z_iconst (pc2 := 77) rfl rfl ?_
              refine z_iadd (pc2 := 78) rfl rfl ?_
              refine z_putI_any (pc2 := 81) rfl rfl rfl rfl rfl rfl t9 (fun _ _ => True.intro) (fun u55 u55r => ?_)
              refine z_iconst (pc2 := 82) rfl rfl ?_
              refine z_iret rfl rfl ?_
              exact hK _ _ (by repeat (first | exact zJf_rf | assumption | refine zJf_u ?_ (by decide)))
          ·
            refine z_aload_n (pc2 := 61) rfl rfl rfl ?_
            refine z_iload_n (pc2 := 62) rfl rfl rfl ?_
            refine z_callV (y2 := 17) (as := [_]) (rest := []) (pc2 := 65) rfl rfl rfl rfl t9 rfl ?_
            refine z_inl ?_
            refine z_lv (lv2 := [(0, _), (1, _)]) ⟨rfl, rfl, trivial⟩ ?_
            refine z_aload_n (pc2 := 1) rfl rfl rfl ?_
            refine z_getI (pc2 := 4) 0 rfl rfl rfl rfl rfl t9 ?_
            intro v56 e56 r56 k56
            replace k56 : (0 : Int) ≤ v56 ∧ v56 ≤ 100 := k56
            replace e56 : v1 = v56 := by rw [e56]; first | exact e1 | exact Eq.symm e1 | (simp [zU]; first | done | exact e1 | exact Eq.symm e1 | omega) | (refine Eq.trans (congrArg _ ?_) (Eq.symm e1); omega)
            subst e56
            refine z_if_le (t := 32) (pc2 := 7) rfl rfl rfl (by omega) (fun c57 => ?_) (fun c57 => ?_)
            ·
              refine z_ret rfl rfl ?_
              show zB _ _ _ _ _ _ [] _ _
              refine z_iconst (pc2 := 66) rfl rfl ?_
              refine z_iret rfl rfl ?_
              exact hK _ _ (by repeat (first | exact zJf_rf | assumption | refine zJf_u ?_ (by decide)))
            ·
              refine z_aload_n (pc2 := 8) rfl rfl rfl ?_
              refine z_iload_n (pc2 := 9) rfl rfl rfl ?_
              refine z_aload_n (pc2 := 10) rfl rfl rfl ?_
              refine z_getI (pc2 := 13) 0 rfl rfl rfl rfl rfl t9 ?_
              intro v58 e58 r58 k58
              replace k58 : (0 : Int) ≤ v58 ∧ v58 ≤ 100 := k58
              replace e58 : v1 = v58 := by rw [e58]; first | exact e1 | exact Eq.symm e1 | (simp [zU]; first | done | exact e1 | exact Eq.symm e1 | omega) | (refine Eq.trans (congrArg _ ?_) (Eq.symm e1); omega)
              subst e58
              refine z_idiv (pc2 := 14) rfl rfl (z_ne0 (by omega) (by omega)) (fun r59 => ?_)
              refine z_putI (pc2 := 17) rfl rfl rfl rfl rfl rfl t9 (by omega) True.intro ?_
              refine z_aload_n (pc2 := 18) rfl rfl rfl ?_
              refine z_iload_n (pc2 := 19) rfl rfl rfl ?_
              refine z_aload_n (pc2 := 20) rfl rfl rfl ?_
              refine z_getI (pc2 := 23) 0 rfl rfl rfl rfl rfl t9 ?_
              intro v61 e61 r61 k61
              replace k61 : (0 : Int) ≤ v61 ∧ v61 ≤ 100 := k61
              replace e61 : v1 = v61 := by rw [e61]; first | exact e1 | exact Eq.symm e1 | (simp [zU]; first | done | exact e1 | exact Eq.symm e1 | omega) | (refine Eq.trans (congrArg _ ?_) (Eq.symm e1); omega)
              subst e61
              refine z_aload_n (pc2 := 24) rfl rfl rfl ?_
              refine z_getI (pc2 := 27) 0 rfl rfl rfl rfl rfl t9 ?_
              intro v62 e62 r62 k62
              clear k62
              clear e62
              refine z_imul (pc2 := 28) rfl rfl ?_
              refine z_isub (pc2 := 29) rfl rfl ?_
              refine z_putI_any (pc2 := 32) rfl rfl rfl rfl rfl rfl t9 (fun _ _ => True.intro) (fun u64 u64r => ?_)
              refine z_ret rfl rfl ?_
              show zB _ _ _ _ _ _ [] _ _
              refine z_iconst (pc2 := 66) rfl rfl ?_
              refine z_iret rfl rfl ?_
              exact hK _ _ (by repeat (first | exact zJf_rf | assumption | refine zJf_u ?_ (by decide)))
        ·
          refine z_iconst (pc2 := 55) rfl rfl ?_
          refine z_iret rfl rfl ?_
          exact hK _ _ (by repeat (first | exact zJf_rf | assumption | refine zJf_u ?_ (by decide)))
set_option maxHeartbeats 8000000 in
theorem c_Integer_signum {L : Nat} {xs : Nat → Int32} {n sl : Nat} {T : Nat → zT} {I : Nat → Nat → Int} {P : Nat → Nat → Option Nat} {G : Nat → Nat → Int} {K : List zV → zH → Prop} {u : Int} (hK : ∀ e, zR e → K [.inl e] (n, sl, T, I, P, G)) : zX zMd L xs 268 [.inl u] (n, sl, T, I, P, G) K := by
  refine z_inl ?_
  refine z_lv (lv2 := [(0, _)]) ⟨rfl, trivial⟩ ?_
  refine z_iload_n (pc2 := 1) rfl rfl rfl ?_
  refine z_bipush (pc2 := 3) rfl rfl (by decide) ?_
  refine z_ishr (pc2 := 4) rfl rfl (fun r1 => ?_)
  refine z_iload_n (pc2 := 5) rfl rfl rfl ?_
  refine z_ineg (pc2 := 6) rfl rfl ?_
  refine z_bipush (pc2 := 8) rfl rfl (by decide) ?_
  refine z_iushr (pc2 := 9) rfl rfl (fun r3 => ?_)
  refine z_ior (pc2 := 10) rfl rfl (fun r5 => ?_)
  refine z_iret rfl rfl ?_
  exact hK _ (by omega)
set_option maxHeartbeats 8000000 in
theorem c_Composer_nextAdded {L : Nat} {xs : Nat → Int32} {n sl : Nat} {T : Nat → zT} {I : Nat → Nat → Int} {P : Nat → Nat → Option Nat} {G : Nat → Nat → Int} {K : List zV → zH → Prop} {k : Int} (hn : 90 ≤ n) (hC : ∀ a, 1 ≤ a → a ≤ 55 → T a = zFixC a) (hk : zR k) (hK : ∀ e I2, (∀ a k, ¬ (a = 9 ∧ k = 16) → I2 a k = I a k) → K [.inl e] (n, sl, T, I2, P, G)) : zX zMd L xs 19 [.inr (.inl (some 9)), .inl k] (n, sl, T, I, P, G) K := by
  have t9 : T 9 = (1, 0, [1]) := hC 9 (by decide) (by decide)
  refine z_inl ?_
  refine z_lv (lv2 := [(0, _), (1, _)]) ⟨rfl, rfl, trivial⟩ ?_
  refine z_iload_n (pc2 := 1) rfl rfl rfl ?_
  refine z_iconst (pc2 := 2) rfl rfl ?_
  refine z_icmp_ne (t := 30) (pc2 := 5) rfl rfl rfl (by omega) (by omega) (fun c1 => ?_) (fun c1 => ?_)
  ·
    refine z_iload_n (pc2 := 31) rfl rfl rfl ?_
    refine z_iconst (pc2 := 32) rfl rfl ?_
    refine z_icmp_ne (t := 65) (pc2 := 35) rfl rfl rfl (by omega) (by omega) (fun c2 => ?_) (fun c2 => ?_)
    ·
      refine z_iconst (pc2 := 66) rfl rfl ?_
      refine z_iret rfl rfl ?_
      exact hK _ _ (fun a k h => by first | rfl | simp [zU, h])
    ·
      refine z_aload_n (pc2 := 36) rfl rfl rfl ?_
      refine z_getI (pc2 := 39) 0 rfl rfl rfl rfl rfl t9 ?_
      intro v3 e3 r3 k3
      clear k3
      clear e3
      refine z_if_le (t := 46) (pc2 := 42) rfl rfl rfl (by omega) (fun c4 => ?_) (fun c4 => ?_)
      ·
        refine z_iconst (pc2 := 47) rfl rfl ?_
        refine z_istore_n (lv2 := [(2, _), (0, _), (1, _)]) (pc2 := 48) rfl rfl rfl rfl ?_
        refine z_aload_n (pc2 := 49) rfl rfl rfl ?_
        refine z_dup (pc2 := 50) rfl rfl rfl ?_
        refine z_getI (pc2 := 53) 0 rfl rfl rfl rfl rfl t9 ?_
        intro v5 e5 r5 k5
        clear k5
        clear e5
        refine z_iload_n (pc2 := 54) rfl rfl rfl ?_
        refine z_isub (pc2 := 55) rfl rfl ?_
        refine z_putI (pc2 := 58) rfl rfl rfl rfl rfl rfl t9 (by omega) True.intro ?_
        refine z_aload_n (pc2 := 59) rfl rfl rfl ?_
        refine z_getI (pc2 := 62) 0 rfl rfl rfl rfl rfl t9 ?_
        intro v6 e6 r6 k6
        clear k6
        clear e6
        refine z_iload_n (pc2 := 63) rfl rfl rfl ?_
        refine z_iadd (pc2 := 64) rfl rfl ?_
        refine z_iret rfl rfl ?_
        exact hK _ _ (fun a k h => by first | rfl | simp [zU, h])
      ·
        refine z_iconst (pc2 := 43) rfl rfl ?_
        refine z_goto (pc2 := 47) rfl rfl ?_
        refine z_istore_n (lv2 := [(2, _), (0, _), (1, _)]) (pc2 := 48) rfl rfl rfl rfl ?_
        refine z_aload_n (pc2 := 49) rfl rfl rfl ?_
        refine z_dup (pc2 := 50) rfl rfl rfl ?_
        refine z_getI (pc2 := 53) 0 rfl rfl rfl rfl rfl t9 ?_
        intro v7 e7 r7 k7
        clear k7
        clear e7
        refine z_iload_n (pc2 := 54) rfl rfl rfl ?_
        refine z_isub (pc2 := 55) rfl rfl ?_
        refine z_putI_any (pc2 := 58) rfl rfl rfl rfl rfl rfl t9 (fun _ _ => True.intro) (fun u8 u8r => ?_)
        refine z_aload_n (pc2 := 59) rfl rfl rfl ?_
        refine z_getI (pc2 := 62) 0 rfl rfl rfl rfl rfl t9 ?_
        intro v9 e9 r9 k9
        clear k9
        clear e9
        refine z_iload_n (pc2 := 63) rfl rfl rfl ?_
        refine z_iadd (pc2 := 64) rfl rfl ?_
        refine z_iret rfl rfl ?_
        exact hK _ _ (fun a k h => by first | rfl | simp [zU, h])
  ·
    refine z_aload_n (pc2 := 6) rfl rfl rfl ?_
    refine z_getI (pc2 := 9) 0 rfl rfl rfl rfl rfl t9 ?_
    intro v10 e10 r10 k10
    clear k10
    clear e10
    refine z_callS (y2 := 268) (as := [_]) (rest := []) (pc2 := 12) rfl rfl rfl rfl ?_
    refine c_Integer_signum (fun w11 w11r => ?_)
    show zB _ _ _ _ _ _ [_] _ _
    refine z_istore_n (lv2 := [(2, _), (0, _), (1, _)]) (pc2 := 13) rfl rfl rfl rfl ?_
    refine z_aload_n (pc2 := 14) rfl rfl rfl ?_
    refine z_dup (pc2 := 15) rfl rfl rfl ?_
    refine z_getI (pc2 := 18) 0 rfl rfl rfl rfl rfl t9 ?_
    intro v12 e12 r12 k12
    clear k12
    clear e12
    refine z_iload_n (pc2 := 19) rfl rfl rfl ?_
    refine z_isub (pc2 := 20) rfl rfl ?_
    refine z_putI_any (pc2 := 23) rfl rfl rfl rfl rfl rfl t9 (fun _ _ => True.intro) (fun u13 u13r => ?_)
    refine z_aload_n (pc2 := 24) rfl rfl rfl ?_
    refine z_getI (pc2 := 27) 0 rfl rfl rfl rfl rfl t9 ?_
    intro v14 e14 r14 k14
    clear k14
    clear e14
    refine z_iload_n (pc2 := 28) rfl rfl rfl ?_
    refine z_iadd (pc2 := 29) rfl rfl ?_
    refine z_iret rfl rfl ?_
    exact hK _ _ (fun a k h => by first | rfl | simp [zU, h])
set_option maxHeartbeats 8000000 in
theorem c_Reading_sortAt {L : Nat} {xs : Nat → Int32} {n sl : Nat} {T : Nat → zT} {I : Nat → Nat → Int} {P : Nat → Nat → Option Nat} {G : Nat → Nat → Int} {K : List zV → zH → Prop} {k a un kd cd sd : Int} {fo : Nat} (hn : 90 ≤ n) (hC : ∀ a, 1 ≤ a → a ≤ 55 → T a = zFixC a) (hk : 0 ≤ k ∧ k ≤ 39) (hun : 0 ≤ un ∧ un ≤ 24) (hkd : 0 ≤ kd ∧ kd ≤ 5) (hcd : 0 ≤ cd ∧ cd ≤ 23) (hsd : 0 ≤ sd ∧ sd ≤ 23) (hrf : P 5 4 = some fo) (tfo : T fo = (1, 3, [un])) (fol : fo ≤ n) (fo9 : 91 ≤ fo) (hk6 : I 6 k.toNat = kd) (hk7 : I 7 k.toNat = cd) (hk8 : I 8 k.toNat = sd) (hv : zTw un kd cd sd) (h67 : kd ≠ 6 ∧ kd ≠ 7) (hK : ∀ n2 s2 T2 I2 P2 G2 q, zTn n T T2 → zTm T T2 → zQs (zIn n) I I2 → zPs2 (zIn n) P P2 → 91 ≤ q → q ≤ n2 → zSS (T2 q) → (n ≤ n2 ∧ n2 ≤ n + 3 ∧ s2 ≤ sl + 18) → K [.inr (.inl (some q))] (n2, s2, T2, I2, P2, G2)) : zX zMd L xs 75 [.inr (.inl (some 5)), .inl k, .inl a] (n, sl, T, I, P, G) K := by
  have t5 : T 5 = (1, 7, [1]) := hC 5 (by decide) (by decide)
  have t6 : T 6 = (2, 0, [40, 20]) := hC 6 (by decide) (by decide)
  have t7 : T 7 = (2, 0, [40, 21]) := hC 7 (by decide) (by decide)
  have t8 : T 8 = (2, 0, [40, 21]) := hC 8 (by decide) (by decide)
  have t11 : T 11 = (2, 0, [41, 0]) := hC 11 (by decide) (by decide)
  have t17 : T 17 = (2, 0, [12, 9]) := hC 17 (by decide) (by decide)
  have t22 : T 22 = (2, 0, [12, 12]) := hC 22 (by decide) (by decide)
  unfold zTw at hv
  refine z_inl ?_
  refine z_lv (lv2 := [(0, _), (1, _), (2, _)]) ⟨rfl, rfl, rfl, trivial⟩ ?_
  refine z_aload_n (pc2 := 1) rfl rfl rfl ?_
  refine z_getP (pc2 := 4) rfl rfl rfl rfl t5 ?_
  intro p1 p1e p1k
  replace p1k : p1 = some 6 := p1k; clear p1e; subst p1k
  refine z_iload_n (pc2 := 5) rfl rfl rfl ?_
  refine z_iald (pc2 := 6) rfl rfl t6 (by omega) (by omega) (by omega) ?_
  intro v2 e2 r2 k2
  replace k2 : (0 : Int) ≤ v2 ∧ v2 ≤ 7 := k2
  replace e2 : kd = v2 := by rw [e2]; first | exact hk6 | exact Eq.symm hk6 | (simp [zU]; first | done | exact hk6 | exact Eq.symm hk6 | omega) | (refine Eq.trans (congrArg _ ?_) (Eq.symm hk6); omega)
  subst e2
  refine z_iconst (pc2 := 7) rfl rfl ?_
  refine z_icmp_ne (t := 56) (pc2 := 10) rfl rfl rfl (by omega) (by omega) (fun c3 => ?_) (fun c3 => ?_)
  ·
    refine z_new (c := 9) (s := 6) (pc2 := 59) rfl rfl rfl rfl (fun _ => True.intro) (fun T4 I4 P4 G4 w4 => ?_)
    refine z_dup (pc2 := 60) rfl rfl rfl ?_
    refine z_aload_n (pc2 := 61) rfl rfl rfl ?_
    refine z_getP (pc2 := 64) rfl rfl rfl rfl ((w4.1 _ (by omega)).1.trans t5) ?_
    intro p5 p5e p5k
    replace p5k : p5 = some 6 := p5k; clear p5e; subst p5k
    refine z_iload_n (pc2 := 65) rfl rfl rfl ?_
    refine z_iald (pc2 := 66) rfl rfl ((w4.1 _ (by omega)).1.trans t6) (by omega) (by omega) (by omega) ?_
    intro v6 e6 r6 k6
    replace k6 : (0 : Int) ≤ v6 ∧ v6 ≤ 7 := k6
    replace e6 : kd = v6 := by rw [e6]; first | exact (by rw [(w4.1 6 (by omega)).2.1]; first | exact hk6 | exact Eq.symm hk6) | exact Eq.symm (by rw [(w4.1 6 (by omega)).2.1]; first | exact hk6 | exact Eq.symm hk6) | (simp [zU]; first | done | exact (by rw [(w4.1 6 (by omega)).2.1]; first | exact hk6 | exact Eq.symm hk6) | exact Eq.symm (by rw [(w4.1 6 (by omega)).2.1]; first | exact hk6 | exact Eq.symm hk6) | omega) | (refine Eq.trans (congrArg _ ?_) (Eq.symm (by rw [(w4.1 6 (by omega)).2.1]; first | exact hk6 | exact Eq.symm hk6)); omega)
    subst e6
    refine z_aload_n (pc2 := 67) rfl rfl rfl ?_
    refine z_getP (pc2 := 70) rfl rfl rfl rfl ((w4.1 _ (by omega)).1.trans t5) ?_
    intro p7 p7e p7k
    clear p7k; replace p7e : p7 = some fo := by rw [p7e]; first | exact (by rw [(w4.1 5 (by omega)).2.2.1]; first | exact hrf | exact Eq.symm hrf) | exact Eq.symm (by rw [(w4.1 5 (by omega)).2.2.1]; first | exact hrf | exact Eq.symm hrf) | (simp [zU]; first | done | exact (by rw [(w4.1 5 (by omega)).2.2.1]; first | exact hrf | exact Eq.symm hrf) | exact Eq.symm (by rw [(w4.1 5 (by omega)).2.2.1]; first | exact hrf | exact Eq.symm hrf) | omega) | (refine Eq.trans (congrArg _ ?_) (Eq.symm (by rw [(w4.1 5 (by omega)).2.2.1]; first | exact hrf | exact Eq.symm hrf)); omega)
    subst p7e
    refine z_aload_n (pc2 := 71) rfl rfl rfl ?_
    refine z_getP (pc2 := 74) rfl rfl rfl rfl ((w4.1 _ (by omega)).1.trans t5) ?_
    intro p8 p8e p8k
    replace p8k : p8 = some 7 := p8k; clear p8e; subst p8k
    refine z_iload_n (pc2 := 75) rfl rfl rfl ?_
    refine z_iald (pc2 := 76) rfl rfl ((w4.1 _ (by omega)).1.trans t7) (by omega) (by omega) (by omega) ?_
    intro v9 e9 r9 k9
    replace k9 : (0 : Int) ≤ v9 ∧ v9 ≤ 23 := k9
    replace e9 : cd = v9 := by rw [e9]; first | exact (by rw [(w4.1 7 (by omega)).2.1]; first | exact hk7 | exact Eq.symm hk7) | exact Eq.symm (by rw [(w4.1 7 (by omega)).2.1]; first | exact hk7 | exact Eq.symm hk7) | (simp [zU]; first | done | exact (by rw [(w4.1 7 (by omega)).2.1]; first | exact hk7 | exact Eq.symm hk7) | exact Eq.symm (by rw [(w4.1 7 (by omega)).2.1]; first | exact hk7 | exact Eq.symm hk7) | omega) | (refine Eq.trans (congrArg _ ?_) (Eq.symm (by rw [(w4.1 7 (by omega)).2.1]; first | exact hk7 | exact Eq.symm hk7)); omega)
    subst e9
    refine z_iload_n (pc2 := 77) rfl rfl rfl ?_
    refine z_callP (y2 := 83) (as := [_, _, _, _]) (rest := [_]) (pc2 := 80) rfl rfl rfl rfl ?_
    refine z_inl ?_
    refine z_lv (lv2 := [(0, _), (1, _), (2, _), (3, _), (4, _)]) ⟨rfl, rfl, rfl, rfl, rfl, trivial⟩ ?_
    refine z_aload_n (pc2 := 1) rfl rfl rfl ?_
    refine z_obj (pc2 := 4) rfl rfl rfl rfl ?_
    refine z_aload_n (pc2 := 5) rfl rfl rfl ?_
    refine z_iload_n (pc2 := 6) rfl rfl rfl ?_
    refine z_putI (pc2 := 9) rfl rfl rfl rfl rfl rfl w4.2.1 (by omega) True.intro ?_
    refine z_aload_n (pc2 := 10) rfl rfl rfl ?_
    refine z_aload_n (pc2 := 11) rfl rfl rfl ?_
    refine z_putP (pc2 := 14) rfl rfl rfl rfl (by first | exact z_fitO _ _ | exact z_fitA _ _) rfl w4.2.1 True.intro ?_
    refine z_aload_n (pc2 := 15) rfl rfl rfl ?_
    refine z_iload_n (pc2 := 16) rfl rfl rfl ?_
    refine z_putI (pc2 := 19) rfl rfl rfl rfl rfl rfl w4.2.1 (by omega) True.intro ?_
    refine z_aload_n (pc2 := 20) rfl rfl rfl ?_
    refine z_iload (pc2 := 22) rfl rfl rfl ?_
    refine z_putI_any (pc2 := 25) rfl rfl rfl rfl rfl rfl w4.2.1 (fun _ _ => True.intro) (fun u10 u10r => ?_)
    refine z_aload_n (pc2 := 26) rfl rfl rfl ?_
    refine z_aconst_null (pc2 := 27) rfl rfl ?_
    refine z_putP (pc2 := 30) rfl rfl rfl rfl (by first | exact z_fitO _ _ | exact z_fitA _ _) rfl w4.2.1 True.intro ?_
    refine z_aload_n (pc2 := 31) rfl rfl rfl ?_
    refine z_aconst_null (pc2 := 32) rfl rfl ?_
    refine z_putP (pc2 := 35) rfl rfl rfl rfl (by first | exact z_fitO _ _ | exact z_fitA _ _) rfl w4.2.1 True.intro ?_
    refine z_ret rfl rfl ?_
    show zB _ _ _ _ _ _ [_] _ _
    refine zB_rtO (g := 1) (gs := [kd, un]) w4.2.1 (zSort_I (cd := (cd)) (by simp [zU]) (by simp [zU]) (by omega)) (zSort_P (q := fo) (by simp [zU]) (by omega) ((w4.1 _ (by omega)).1.trans tfo) (by omega) (by simp [zU]) (by simp [zU]) (by omega)) (fun T11 r11 t11 m11 => ?_)
    refine z_aret rfl rfl ?_
    exact hK _ _ _ _ _ _ _ (zTn_r (zTn_n zTn_rf w4 (by omega)) r11 (by omega)) (zTm_tr (zTm_tr (zTm_rf _) (zTk_m w4.2.2.2.2)) m11) (zQs_u (zQs_u (zQs_u (zQs_n zQs_rf w4 (fun _ => by unfold zIn; omega)) (by unfold zIn; omega)) (by unfold zIn; omega)) (by unfold zIn; omega)) (zPs_v (zPs_v (zPs_v (zPs_n zPs_rf w4 (fun _ => by unfold zIn; omega)) (by unfold zIn; omega)) (by unfold zIn; omega)) (by unfold zIn; omega)) (by omega) (by omega) ⟨_, _, t11, by omega, by omega⟩ (by omega)
  ·
    refine z_new (c := 9) (s := 6) (pc2 := 13) rfl rfl rfl rfl (fun _ => True.intro) (fun T12 I12 P12 G12 w12 => ?_)
    refine z_dup (pc2 := 14) rfl rfl rfl ?_
    refine z_new (c := 9) (s := 6) (pc2 := 17) rfl rfl rfl rfl (fun _ => True.intro) (fun T13 I13 P13 G13 w13 => ?_)
    refine z_dup (pc2 := 18) rfl rfl rfl ?_
    refine z_iconst (pc2 := 19) rfl rfl ?_
    refine z_aload_n (pc2 := 20) rfl rfl rfl ?_
    refine z_getP (pc2 := 23) rfl rfl rfl rfl ((w13.1 _ (by omega)).1.trans ((w12.1 _ (by omega)).1.trans t5)) ?_
    intro p14 p14e p14k
    clear p14k; replace p14e : p14 = some fo := by rw [p14e]; first | exact (by rw [(w13.1 5 (by omega)).2.2.1]; first | exact (by rw [(w12.1 5 (by omega)).2.2.1]; first | exact hrf | exact Eq.symm hrf) | exact Eq.symm (by rw [(w12.1 5 (by omega)).2.2.1]; first | exact hrf | exact Eq.symm hrf)) | exact Eq.symm (by rw [(w13.1 5 (by omega)).2.2.1]; first | exact (by rw [(w12.1 5 (by omega)).2.2.1]; first | exact hrf | exact Eq.symm hrf) | exact Eq.symm (by rw [(w12.1 5 (by omega)).2.2.1]; first | exact hrf | exact Eq.symm hrf)) | (simp [zU]; first | done | exact (by rw [(w13.1 5 (by omega)).2.2.1]; first | exact (by rw [(w12.1 5 (by omega)).2.2.1]; first | exact hrf | exact Eq.symm hrf) | exact Eq.symm (by rw [(w12.1 5 (by omega)).2.2.1]; first | exact hrf | exact Eq.symm hrf)) | exact Eq.symm (by rw [(w13.1 5 (by omega)).2.2.1]; first | exact (by rw [(w12.1 5 (by omega)).2.2.1]; first | exact hrf | exact Eq.symm hrf) | exact Eq.symm (by rw [(w12.1 5 (by omega)).2.2.1]; first | exact hrf | exact Eq.symm hrf)) | omega) | (refine Eq.trans (congrArg _ ?_) (Eq.symm (by rw [(w13.1 5 (by omega)).2.2.1]; first | exact (by rw [(w12.1 5 (by omega)).2.2.1]; first | exact hrf | exact Eq.symm hrf) | exact Eq.symm (by rw [(w12.1 5 (by omega)).2.2.1]; first | exact hrf | exact Eq.symm hrf))); omega)
    subst p14e
    refine z_aload_n (pc2 := 24) rfl rfl rfl ?_
    refine z_getP (pc2 := 27) rfl rfl rfl rfl ((w13.1 _ (by omega)).1.trans ((w12.1 _ (by omega)).1.trans t5)) ?_
    intro p15 p15e p15k
    replace p15k : p15 = some 7 := p15k; clear p15e; subst p15k
    refine z_iload_n (pc2 := 28) rfl rfl rfl ?_
    refine z_iald (pc2 := 29) rfl rfl ((w13.1 _ (by omega)).1.trans ((w12.1 _ (by omega)).1.trans t7)) (by omega) (by omega) (by omega) ?_
    intro v16 e16 r16 k16
    replace k16 : (0 : Int) ≤ v16 ∧ v16 ≤ 23 := k16
    replace e16 : cd = v16 := by rw [e16]; first | exact (by rw [(w13.1 7 (by omega)).2.1]; first | exact (by rw [(w12.1 7 (by omega)).2.1]; first | exact hk7 | exact Eq.symm hk7) | exact Eq.symm (by rw [(w12.1 7 (by omega)).2.1]; first | exact hk7 | exact Eq.symm hk7)) | exact Eq.symm (by rw [(w13.1 7 (by omega)).2.1]; first | exact (by rw [(w12.1 7 (by omega)).2.1]; first | exact hk7 | exact Eq.symm hk7) | exact Eq.symm (by rw [(w12.1 7 (by omega)).2.1]; first | exact hk7 | exact Eq.symm hk7)) | (simp [zU]; first | done | exact (by rw [(w13.1 7 (by omega)).2.1]; first | exact (by rw [(w12.1 7 (by omega)).2.1]; first | exact hk7 | exact Eq.symm hk7) | exact Eq.symm (by rw [(w12.1 7 (by omega)).2.1]; first | exact hk7 | exact Eq.symm hk7)) | exact Eq.symm (by rw [(w13.1 7 (by omega)).2.1]; first | exact (by rw [(w12.1 7 (by omega)).2.1]; first | exact hk7 | exact Eq.symm hk7) | exact Eq.symm (by rw [(w12.1 7 (by omega)).2.1]; first | exact hk7 | exact Eq.symm hk7)) | omega) | (refine Eq.trans (congrArg _ ?_) (Eq.symm (by rw [(w13.1 7 (by omega)).2.1]; first | exact (by rw [(w12.1 7 (by omega)).2.1]; first | exact hk7 | exact Eq.symm hk7) | exact Eq.symm (by rw [(w12.1 7 (by omega)).2.1]; first | exact hk7 | exact Eq.symm hk7))); omega)
    subst e16
    refine z_iconst (pc2 := 30) rfl rfl ?_
    refine z_callP (y2 := 83) (as := [_, _, _, _]) (rest := [_, _, _]) (pc2 := 33) rfl rfl rfl rfl ?_
    refine z_inl ?_
    refine z_lv (lv2 := [(0, _), (1, _), (2, _), (3, _), (4, _)]) ⟨rfl, rfl, rfl, rfl, rfl, trivial⟩ ?_
    refine z_aload_n (pc2 := 1) rfl rfl rfl ?_
    refine z_obj (pc2 := 4) rfl rfl rfl rfl ?_
    refine z_aload_n (pc2 := 5) rfl rfl rfl ?_
    refine z_iload_n (pc2 := 6) rfl rfl rfl ?_
    refine z_putI (pc2 := 9) rfl rfl rfl rfl rfl rfl w13.2.1 (by omega) True.intro ?_
    refine z_aload_n (pc2 := 10) rfl rfl rfl ?_
    refine z_aload_n (pc2 := 11) rfl rfl rfl ?_
    refine z_putP (pc2 := 14) rfl rfl rfl rfl (by first | exact z_fitO _ _ | exact z_fitA _ _) rfl w13.2.1 True.intro ?_
    refine z_aload_n (pc2 := 15) rfl rfl rfl ?_
    refine z_iload_n (pc2 := 16) rfl rfl rfl ?_
    refine z_putI (pc2 := 19) rfl rfl rfl rfl rfl rfl w13.2.1 (by omega) True.intro ?_
    refine z_aload_n (pc2 := 20) rfl rfl rfl ?_
    refine z_iload (pc2 := 22) rfl rfl rfl ?_
    refine z_putI (pc2 := 25) rfl rfl rfl rfl rfl rfl w13.2.1 (by omega) True.intro ?_
    refine z_aload_n (pc2 := 26) rfl rfl rfl ?_
    refine z_aconst_null (pc2 := 27) rfl rfl ?_
    refine z_putP (pc2 := 30) rfl rfl rfl rfl (by first | exact z_fitO _ _ | exact z_fitA _ _) rfl w13.2.1 True.intro ?_
    refine z_aload_n (pc2 := 31) rfl rfl rfl ?_
    refine z_aconst_null (pc2 := 32) rfl rfl ?_
    refine z_putP (pc2 := 35) rfl rfl rfl rfl (by first | exact z_fitO _ _ | exact z_fitA _ _) rfl w13.2.1 True.intro ?_
    refine z_ret rfl rfl ?_
    show zB _ _ _ _ _ _ [_, _, _] _ _
    refine zB_rtO (g := 1) (gs := [0, un]) w13.2.1 (zSort_I (cd := (cd)) (by simp [zU]) (by simp [zU]) (by omega)) (zSort_P (q := fo) (by simp [zU]) (by omega) ((w13.1 _ (by omega)).1.trans ((w12.1 _ (by omega)).1.trans tfo)) (by omega) (by simp [zU]) (by simp [zU]) (by omega)) (fun T17 r17 t17 m17 => ?_)
    refine z_new (c := 9) (s := 6) (pc2 := 36) rfl rfl rfl rfl (fun _ => True.intro) (fun T18 I18 P18 G18 w18 => ?_)
    refine z_dup (pc2 := 37) rfl rfl rfl ?_
    refine z_iconst (pc2 := 38) rfl rfl ?_
    refine z_aload_n (pc2 := 39) rfl rfl rfl ?_
    refine z_getP (pc2 := 42) rfl rfl rfl rfl ((w18.1 _ (by omega)).1.trans ((r17 _ (by omega)).trans ((w13.1 _ (by omega)).1.trans ((w12.1 _ (by omega)).1.trans t5)))) ?_
    intro p19 p19e p19k
    clear p19k; replace p19e : p19 = some fo := by rw [p19e]; first | exact (by rw [(w18.1 5 (by omega)).2.2.1]; first | exact (by rw [zU_row _ _ _ (by omega)]; first | exact (by rw [zU_row _ _ _ (by omega)]; first | exact (by rw [zU_row _ _ _ (by omega)]; first | exact (by rw [(w13.1 5 (by omega)).2.2.1]; first | exact (by rw [(w12.1 5 (by omega)).2.2.1]; first | exact hrf | exact Eq.symm hrf) | exact Eq.symm (by rw [(w12.1 5 (by omega)).2.2.1]; first | exact hrf | exact Eq.symm hrf)) | exact Eq.symm (by rw [(w13.1 5 (by omega)).2.2.1]; first | exact (by rw [(w12.1 5 (by omega)).2.2.1]; first | exact hrf | exact Eq.symm hrf) | exact Eq.symm (by rw [(w12.1 5 (by omega)).2.2.1]; first | exact hrf | exact Eq.symm hrf))) | exact Eq.symm (by rw [zU_row _ _ _ (by omega)]; first | exact (by rw [(w13.1 5 (by omega)).2.2.1]; first | exact (by rw [(w12.1 5 (by omega)).2.2.1]; first | exact hrf | exact Eq.symm hrf) | exact Eq.symm (by rw [(w12.1 5 (by omega)).2.2.1]; first | exact hrf | exact Eq.symm hrf)) | exact Eq.symm (by rw [(w13.1 5 (by omega)).2.2.1]; first | exact (by rw [(w12.1 5 (by omega)).2.2.1]; first | exact hrf | exact Eq.symm hrf) | exact Eq.symm (by rw [(w12.1 5 (by omega)).2.2.1]; first | exact hrf | exact Eq.symm hrf)))) | exact Eq.symm (by rw [zU_row _ _ _ (by omega)]; first | exact (by rw [zU_row _ _ _ (by omega)]; first | exact (by rw [(w13.1 5 (by omega)).2.2.1]; first | exact (by rw [(w12.1 5 (by omega)).2.2.1]; first | exact hrf | exact Eq.symm hrf) | exact Eq.symm (by rw [(w12.1 5 (by omega)).2.2.1]; first | exact hrf | exact Eq.symm hrf)) | exact Eq.symm (by rw [(w13.1 5 (by omega)).2.2.1]; first | exact (by rw [(w12.1 5 (by omega)).2.2.1]; first | exact hrf | exact Eq.symm hrf) | exact Eq.symm (by rw [(w12.1 5 (by omega)).2.2.1]; first | exact hrf | exact Eq.symm hrf))) | exact Eq.symm (by rw [zU_row _ _ _ (by omega)]; first | exact (by rw [(w13.1 5 (by omega)).2.2.1]; first | exact (by rw [(w12.1 5 (by omega)).2.2.1]; first | exact hrf | exact Eq.symm hrf) | exact Eq.symm (by rw [(w12.1 5 (by omega)).2.2.1]; first | exact hrf | exact Eq.symm hrf)) | exact Eq.symm (by rw [(w13.1 5 (by omega)).2.2.1]; first | exact (by rw [(w12.1 5 (by omega)).2.2.1]; first | exact hrf | exact Eq.symm hrf) | exact Eq.symm (by rw [(w12.1 5 (by omega)).2.2.1]; first | exact hrf | exact Eq.symm hrf))))) | exact Eq.symm (by rw [zU_row _ _ _ (by omega)]; first | exact (by rw [zU_row _ _ _ (by omega)]; first | exact (by rw [zU_row _ _ _ (by omega)]; first | exact (by rw [(w13.1 5 (by omega)).2.2.1]; first | exact (by rw [(w12.1 5 (by omega)).2.2.1]; first | exact hrf | exact Eq.symm hrf) | exact Eq.symm (by rw [(w12.1 5 (by omega)).2.2.1]; first | exact hrf | exact Eq.symm hrf)) | exact Eq.symm (by rw [(w13.1 5 (by omega)).2.2.1]; first | exact (by rw [(w12.1 5 (by omega)).2.2.1]; first | exact hrf | exact Eq.symm hrf) | exact Eq.symm (by rw [(w12.1 5 (by omega)).2.2.1]; first | exact hrf | exact Eq.symm hrf))) | exact Eq.symm (by rw [zU_row _ _ _ (by omega)]; first | exact (by rw [(w13.1 5 (by omega)).2.2.1]; first | exact (by rw [(w12.1 5 (by omega)).2.2.1]; first | exact hrf | exact Eq.symm hrf) | exact Eq.symm (by rw [(w12.1 5 (by omega)).2.2.1]; first | exact hrf | exact Eq.symm hrf)) | exact Eq.symm (by rw [(w13.1 5 (by omega)).2.2.1]; first | exact (by rw [(w12.1 5 (by omega)).2.2.1]; first | exact hrf | exact Eq.symm hrf) | exact Eq.symm (by rw [(w12.1 5 (by omega)).2.2.1]; first | exact hrf | exact Eq.symm hrf)))) | exact Eq.symm (by rw [zU_row _ _ _ (by omega)]; first | exact (by rw [zU_row _ _ _ (by omega)]; first | exact (by rw [(w13.1 5 (by omega)).2.2.1]; first | exact (by rw [(w12.1 5 (by omega)).2.2.1]; first | exact hrf | exact Eq.symm hrf) | exact Eq.symm (by rw [(w12.1 5 (by omega)).2.2.1]; first | exact hrf | exact Eq.symm hrf)) | exact Eq.symm (by rw [(w13.1 5 (by omega)).2.2.1]; first | exact (by rw [(w12.1 5 (by omega)).2.2.1]; first | exact hrf | exact Eq.symm hrf) | exact Eq.symm (by rw [(w12.1 5 (by omega)).2.2.1]; first | exact hrf | exact Eq.symm hrf))) | exact Eq.symm (by rw [zU_row _ _ _ (by omega)]; first | exact (by rw [(w13.1 5 (by omega)).2.2.1]; first | exact (by rw [(w12.1 5 (by omega)).2.2.1]; first | exact hrf | exact Eq.symm hrf) | exact Eq.symm (by rw [(w12.1 5 (by omega)).2.2.1]; first | exact hrf | exact Eq.symm hrf)) | exact Eq.symm (by rw [(w13.1 5 (by omega)).2.2.1]; first | exact (by rw [(w12.1 5 (by omega)).2.2.1]; first | exact hrf | exact Eq.symm hrf) | exact Eq.symm (by rw [(w12.1 5 (by omega)).2.2.1]; first | exact hrf | exact Eq.symm hrf)))))) | exact Eq.symm (by rw [(w18.1 5 (by omega)).2.2.1]; first | exact (by rw [zU_row _ _ _ (by omega)]; first | exact (by rw [zU_row _ _ _ (by omega)]; first | exact (by rw [zU_row _ _ _ (by omega)]; first | exact (by rw [(w13.1 5 (by omega)).2.2.1]; first | exact (by rw [(w12.1 5 (by omega)).2.2.1]; first | exact hrf | exact Eq.symm hrf) | exact Eq.symm (by rw [(w12.1 5 (by omega)).2.2.1]; first | exact hrf | exact Eq.symm hrf)) | exact Eq.symm (by rw [(w13.1 5 (by omega)).2.2.1]; first | exact (by rw [(w12.1 5 (by omega)).2.2.1]; first | exact hrf | exact Eq.symm hrf) | exact Eq.symm (by rw [(w12.1 5 (by omega)).2.2.1]; first | exact hrf | exact Eq.symm hrf))) | exact Eq.symm (by rw [zU_row _ _ _ (by omega)]; first | exact (by rw [(w13.1 5 (by omega)).2.2.1]; first | exact (by rw [(w12.1 5 (by omega)).2.2.1]; first | exact hrf | exact Eq.symm hrf) | exact Eq.symm (by rw [(w12.1 5 (by omega)).2.2.1]; first | exact hrf | exact Eq.symm hrf)) | exact Eq.symm (by rw [(w13.1 5 (by omega)).2.2.1]; first | exact (by rw [(w12.1 5 (by omega)).2.2.1]; first | exact hrf | exact Eq.symm hrf) | exact Eq.symm (by rw [(w12.1 5 (by omega)).2.2.1]; first | exact hrf | exact Eq.symm hrf)))) | exact Eq.symm (by rw [zU_row _ _ _ (by omega)]; first | exact (by rw [zU_row _ _ _ (by omega)]; first | exact (by rw [(w13.1 5 (by omega)).2.2.1]; first | exact (by rw [(w12.1 5 (by omega)).2.2.1]; first | exact hrf | exact Eq.symm hrf) | exact Eq.symm (by rw [(w12.1 5 (by omega)).2.2.1]; first | exact hrf | exact Eq.symm hrf)) | exact Eq.symm (by rw [(w13.1 5 (by omega)).2.2.1]; first | exact (by rw [(w12.1 5 (by omega)).2.2.1]; first | exact hrf | exact Eq.symm hrf) | exact Eq.symm (by rw [(w12.1 5 (by omega)).2.2.1]; first | exact hrf | exact Eq.symm hrf))) | exact Eq.symm (by rw [zU_row _ _ _ (by omega)]; first | exact (by rw [(w13.1 5 (by omega)).2.2.1]; first | exact (by rw [(w12.1 5 (by omega)).2.2.1]; first | exact hrf | exact Eq.symm hrf) | exact Eq.symm (by rw [(w12.1 5 (by omega)).2.2.1]; first | exact hrf | exact Eq.symm hrf)) | exact Eq.symm (by rw [(w13.1 5 (by omega)).2.2.1]; first | exact (by rw [(w12.1 5 (by omega)).2.2.1]; first | exact hrf | exact Eq.symm hrf) | exact Eq.symm (by rw [(w12.1 5 (by omega)).2.2.1]; first | exact hrf | exact Eq.symm hrf))))) | exact Eq.symm (by rw [zU_row _ _ _ (by omega)]; first | exact (by rw [zU_row _ _ _ (by omega)]; first | exact (by rw [zU_row _ _ _ (by omega)]; first | exact (by rw [(w13.1 5 (by omega)).2.2.1]; first | exact (by rw [(w12.1 5 (by omega)).2.2.1]; first | exact hrf | exact Eq.symm hrf) | exact Eq.symm (by rw [(w12.1 5 (by omega)).2.2.1]; first | exact hrf | exact Eq.symm hrf)) | exact Eq.symm (by rw [(w13.1 5 (by omega)).2.2.1]; first | exact (by rw [(w12.1 5 (by omega)).2.2.1]; first | exact hrf | exact Eq.symm hrf) | exact Eq.symm (by rw [(w12.1 5 (by omega)).2.2.1]; first | exact hrf | exact Eq.symm hrf))) | exact Eq.symm (by rw [zU_row _ _ _ (by omega)]; first | exact (by rw [(w13.1 5 (by omega)).2.2.1]; first | exact (by rw [(w12.1 5 (by omega)).2.2.1]; first | exact hrf | exact Eq.symm hrf) | exact Eq.symm (by rw [(w12.1 5 (by omega)).2.2.1]; first | exact hrf | exact Eq.symm hrf)) | exact Eq.symm (by rw [(w13.1 5 (by omega)).2.2.1]; first | exact (by rw [(w12.1 5 (by omega)).2.2.1]; first | exact hrf | exact Eq.symm hrf) | exact Eq.symm (by rw [(w12.1 5 (by omega)).2.2.1]; first | exact hrf | exact Eq.symm hrf)))) | exact Eq.symm (by rw [zU_row _ _ _ (by omega)]; first | exact (by rw [zU_row _ _ _ (by omega)]; first | exact (by rw [(w13.1 5 (by omega)).2.2.1]; first | exact (by rw [(w12.1 5 (by omega)).2.2.1]; first | exact hrf | exact Eq.symm hrf) | exact Eq.symm (by rw [(w12.1 5 (by omega)).2.2.1]; first | exact hrf | exact Eq.symm hrf)) | exact Eq.symm (by rw [(w13.1 5 (by omega)).2.2.1]; first | exact (by rw [(w12.1 5 (by omega)).2.2.1]; first | exact hrf | exact Eq.symm hrf) | exact Eq.symm (by rw [(w12.1 5 (by omega)).2.2.1]; first | exact hrf | exact Eq.symm hrf))) | exact Eq.symm (by rw [zU_row _ _ _ (by omega)]; first | exact (by rw [(w13.1 5 (by omega)).2.2.1]; first | exact (by rw [(w12.1 5 (by omega)).2.2.1]; first | exact hrf | exact Eq.symm hrf) | exact Eq.symm (by rw [(w12.1 5 (by omega)).2.2.1]; first | exact hrf | exact Eq.symm hrf)) | exact Eq.symm (by rw [(w13.1 5 (by omega)).2.2.1]; first | exact (by rw [(w12.1 5 (by omega)).2.2.1]; first | exact hrf | exact Eq.symm hrf) | exact Eq.symm (by rw [(w12.1 5 (by omega)).2.2.1]; first | exact hrf | exact Eq.symm hrf)))))) | (simp [zU]; first | done | exact (by rw [(w18.1 5 (by omega)).2.2.1]; first | exact (by rw [zU_row _ _ _ (by omega)]; first | exact (by rw [zU_row _ _ _ (by omega)]; first | exact (by rw [zU_row _ _ _ (by omega)]; first | exact (by rw [(w13.1 5 (by omega)).2.2.1]; first | exact (by rw [(w12.1 5 (by omega)).2.2.1]; first | exact hrf | exact Eq.symm hrf) | exact Eq.symm (by rw [(w12.1 5 (by omega)).2.2.1]; first | exact hrf | exact Eq.symm hrf)) | exact Eq.symm (by rw [(w13.1 5 (by omega)).2.2.1]; first | exact (by rw [(w12.1 5 (by omega)).2.2.1]; first | exact hrf | exact Eq.symm hrf) | exact Eq.symm (by rw [(w12.1 5 (by omega)).2.2.1]; first | exact hrf | exact Eq.symm hrf))) | exact Eq.symm (by rw [zU_row _ _ _ (by omega)]; first | exact (by rw [(w13.1 5 (by omega)).2.2.1]; first | exact (by rw [(w12.1 5 (by omega)).2.2.1]; first | exact hrf | exact Eq.symm hrf) | exact Eq.symm (by rw [(w12.1 5 (by omega)).2.2.1]; first | exact hrf | exact Eq.symm hrf)) | exact Eq.symm (by rw [(w13.1 5 (by omega)).2.2.1]; first | exact (by rw [(w12.1 5 (by omega)).2.2.1]; first | exact hrf | exact Eq.symm hrf) | exact Eq.symm (by rw [(w12.1 5 (by omega)).2.2.1]; first | exact hrf | exact Eq.symm hrf)))) | exact Eq.symm (by rw [zU_row _ _ _ (by omega)]; first | exact (by rw [zU_row _ _ _ (by omega)]; first | exact (by rw [(w13.1 5 (by omega)).2.2.1]; first | exact (by rw [(w12.1 5 (by omega)).2.2.1]; first | exact hrf | exact Eq.symm hrf) | exact Eq.symm (by rw [(w12.1 5 (by omega)).2.2.1]; first | exact hrf | exact Eq.symm hrf)) | exact Eq.symm (by rw [(w13.1 5 (by omega)).2.2.1]; first | exact (by rw [(w12.1 5 (by omega)).2.2.1]; first | exact hrf | exact Eq.symm hrf) | exact Eq.symm (by rw [(w12.1 5 (by omega)).2.2.1]; first | exact hrf | exact Eq.symm hrf))) | exact Eq.symm (by rw [zU_row _ _ _ (by omega)]; first | exact (by rw [(w13.1 5 (by omega)).2.2.1]; first | exact (by rw [(w12.1 5 (by omega)).2.2.1]; first | exact hrf | exact Eq.symm hrf) | exact Eq.symm (by rw [(w12.1 5 (by omega)).2.2.1]; first | exact hrf | exact Eq.symm hrf)) | exact Eq.symm (by rw [(w13.1 5 (by omega)).2.2.1]; first | exact (by rw [(w12.1 5 (by omega)).2.2.1]; first | exact hrf | exact Eq.symm hrf) | exact Eq.symm (by rw [(w12.1 5 (by omega)).2.2.1]; first | exact hrf | exact Eq.symm hrf))))) | exact Eq.symm (by rw [zU_row _ _ _ (by omega)]; first | exact (by rw [zU_row _ _ _ (by omega)]; first | exact (by rw [zU_row _ _ _ (by omega)]; first | exact (by rw [(w13.1 5 (by omega)).2.2.1]; first | exact (by rw [(w12.1 5 (by omega)).2.2.1]; first | exact hrf | exact Eq.symm hrf) | exact Eq.symm (by rw [(w12.1 5 (by omega)).2.2.1]; first | exact hrf | exact Eq.symm hrf)) | exact Eq.symm (by rw [(w13.1 5 (by omega)).2.2.1]; first | exact (by rw [(w12.1 5 (by omega)).2.2.1]; first | exact hrf | exact Eq.symm hrf) | exact Eq.symm (by rw [(w12.1 5 (by omega)).2.2.1]; first | exact hrf | exact Eq.symm hrf))) | exact Eq.symm (by rw [zU_row _ _ _ (by omega)]; first | exact (by rw [(w13.1 5 (by omega)).2.2.1]; first | exact (by rw [(w12.1 5 (by omega)).2.2.1]; first | exact hrf | exact Eq.symm hrf) | exact Eq.symm (by rw [(w12.1 5 (by omega)).2.2.1]; first | exact hrf | exact Eq.symm hrf)) | exact Eq.symm (by rw [(w13.1 5 (by omega)).2.2.1]; first | exact (by rw [(w12.1 5 (by omega)).2.2.1]; first | exact hrf | exact Eq.symm hrf) | exact Eq.symm (by rw [(w12.1 5 (by omega)).2.2.1]; first | exact hrf | exact Eq.symm hrf)))) | exact Eq.symm (by rw [zU_row _ _ _ (by omega)]; first | exact (by rw [zU_row _ _ _ (by omega)]; first | exact (by rw [(w13.1 5 (by omega)).2.2.1]; first | exact (by rw [(w12.1 5 (by omega)).2.2.1]; first | exact hrf | exact Eq.symm hrf) | exact Eq.symm (by rw [(w12.1 5 (by omega)).2.2.1]; first | exact hrf | exact Eq.symm hrf)) | exact Eq.symm (by rw [(w13.1 5 (by omega)).2.2.1]; first | exact (by rw [(w12.1 5 (by omega)).2.2.1]; first | exact hrf | exact Eq.symm hrf) | exact Eq.symm (by rw [(w12.1 5 (by omega)).2.2.1]; first | exact hrf | exact Eq.symm hrf))) | exact Eq.symm (by rw [zU_row _ _ _ (by omega)]; first | exact (by rw [(w13.1 5 (by omega)).2.2.1]; first | exact (by rw [(w12.1 5 (by omega)).2.2.1]; first | exact hrf | exact Eq.symm hrf) | exact Eq.symm (by rw [(w12.1 5 (by omega)).2.2.1]; first | exact hrf | exact Eq.symm hrf)) | exact Eq.symm (by rw [(w13.1 5 (by omega)).2.2.1]; first | exact (by rw [(w12.1 5 (by omega)).2.2.1]; first | exact hrf | exact Eq.symm hrf) | exact Eq.symm (by rw [(w12.1 5 (by omega)).2.2.1]; first | exact hrf | exact Eq.symm hrf)))))) | exact Eq.symm (by rw [(w18.1 5 (by omega)).2.2.1]; first | exact (by rw [zU_row _ _ _ (by omega)]; first | exact (by rw [zU_row _ _ _ (by omega)]; first | exact (by rw [zU_row _ _ _ (by omega)]; first | exact (by rw [(w13.1 5 (by omega)).2.2.1]; first | exact (by rw [(w12.1 5 (by omega)).2.2.1]; first | exact hrf | exact Eq.symm hrf) | exact Eq.symm (by rw [(w12.1 5 (by omega)).2.2.1]; first | exact hrf | exact Eq.symm hrf)) | exact Eq.symm (by rw [(w13.1 5 (by omega)).2.2.1]; first | exact (by rw [(w12.1 5 (by omega)).2.2.1]; first | exact hrf | exact Eq.symm hrf) | exact Eq.symm (by rw [(w12.1 5 (by omega)).2.2.1]; first | exact hrf | exact Eq.symm hrf))) | exact Eq.symm (by rw [zU_row _ _ _ (by omega)]; first | exact (by rw [(w13.1 5 (by omega)).2.2.1]; first | exact (by rw [(w12.1 5 (by omega)).2.2.1]; first | exact hrf | exact Eq.symm hrf) | exact Eq.symm (by rw [(w12.1 5 (by omega)).2.2.1]; first | exact hrf | exact Eq.symm hrf)) | exact Eq.symm (by rw [(w13.1 5 (by omega)).2.2.1]; first | exact (by rw [(w12.1 5 (by omega)).2.2.1]; first | exact hrf | exact Eq.symm hrf) | exact Eq.symm (by rw [(w12.1 5 (by omega)).2.2.1]; first | exact hrf | exact Eq.symm hrf)))) | exact Eq.symm (by rw [zU_row _ _ _ (by omega)]; first | exact (by rw [zU_row _ _ _ (by omega)]; first | exact (by rw [(w13.1 5 (by omega)).2.2.1]; first | exact (by rw [(w12.1 5 (by omega)).2.2.1]; first | exact hrf | exact Eq.symm hrf) | exact Eq.symm (by rw [(w12.1 5 (by omega)).2.2.1]; first | exact hrf | exact Eq.symm hrf)) | exact Eq.symm (by rw [(w13.1 5 (by omega)).2.2.1]; first | exact (by rw [(w12.1 5 (by omega)).2.2.1]; first | exact hrf | exact Eq.symm hrf) | exact Eq.symm (by rw [(w12.1 5 (by omega)).2.2.1]; first | exact hrf | exact Eq.symm hrf))) | exact Eq.symm (by rw [zU_row _ _ _ (by omega)]; first | exact (by rw [(w13.1 5 (by omega)).2.2.1]; first | exact (by rw [(w12.1 5 (by omega)).2.2.1]; first | exact hrf | exact Eq.symm hrf) | exact Eq.symm (by rw [(w12.1 5 (by omega)).2.2.1]; first | exact hrf | exact Eq.symm hrf)) | exact Eq.symm (by rw [(w13.1 5 (by omega)).2.2.1]; first | exact (by rw [(w12.1 5 (by omega)).2.2.1]; first | exact hrf | exact Eq.symm hrf) | exact Eq.symm (by rw [(w12.1 5 (by omega)).2.2.1]; first | exact hrf | exact Eq.symm hrf))))) | exact Eq.symm (by rw [zU_row _ _ _ (by omega)]; first | exact (by rw [zU_row _ _ _ (by omega)]; first | exact (by rw [zU_row _ _ _ (by omega)]; first | exact (by rw [(w13.1 5 (by omega)).2.2.1]; first | exact (by rw [(w12.1 5 (by omega)).2.2.1]; first | exact hrf | exact Eq.symm hrf) | exact Eq.symm (by rw [(w12.1 5 (by omega)).2.2.1]; first | exact hrf | exact Eq.symm hrf)) | exact Eq.symm (by rw [(w13.1 5 (by omega)).2.2.1]; first | exact (by rw [(w12.1 5 (by omega)).2.2.1]; first | exact hrf | exact Eq.symm hrf) | exact Eq.symm (by rw [(w12.1 5 (by omega)).2.2.1]; first | exact hrf | exact Eq.symm hrf))) | exact Eq.symm (by rw [zU_row _ _ _ (by omega)]; first | exact (by rw [(w13.1 5 (by omega)).2.2.1]; first | exact (by rw [(w12.1 5 (by omega)).2.2.1]; first | exact hrf | exact Eq.symm hrf) | exact Eq.symm (by rw [(w12.1 5 (by omega)).2.2.1]; first | exact hrf | exact Eq.symm hrf)) | exact Eq.symm (by rw [(w13.1 5 (by omega)).2.2.1]; first | exact (by rw [(w12.1 5 (by omega)).2.2.1]; first | exact hrf | exact Eq.symm hrf) | exact Eq.symm (by rw [(w12.1 5 (by omega)).2.2.1]; first | exact hrf | exact Eq.symm hrf)))) | exact Eq.symm (by rw [zU_row _ _ _ (by omega)]; first | exact (by rw [zU_row _ _ _ (by omega)]; first | exact (by rw [(w13.1 5 (by omega)).2.2.1]; first | exact (by rw [(w12.1 5 (by omega)).2.2.1]; first | exact hrf | exact Eq.symm hrf) | exact Eq.symm (by rw [(w12.1 5 (by omega)).2.2.1]; first | exact hrf | exact Eq.symm hrf)) | exact Eq.symm (by rw [(w13.1 5 (by omega)).2.2.1]; first | exact (by rw [(w12.1 5 (by omega)).2.2.1]; first | exact hrf | exact Eq.symm hrf) | exact Eq.symm (by rw [(w12.1 5 (by omega)).2.2.1]; first | exact hrf | exact Eq.symm hrf))) | exact Eq.symm (by rw [zU_row _ _ _ (by omega)]; first | exact (by rw [(w13.1 5 (by omega)).2.2.1]; first | exact (by rw [(w12.1 5 (by omega)).2.2.1]; first | exact hrf | exact Eq.symm hrf) | exact Eq.symm (by rw [(w12.1 5 (by omega)).2.2.1]; first | exact hrf | exact Eq.symm hrf)) | exact Eq.symm (by rw [(w13.1 5 (by omega)).2.2.1]; first | exact (by rw [(w12.1 5 (by omega)).2.2.1]; first | exact hrf | exact Eq.symm hrf) | exact Eq.symm (by rw [(w12.1 5 (by omega)).2.2.1]; first | exact hrf | exact Eq.symm hrf)))))) | omega) | (refine Eq.trans (congrArg _ ?_) (Eq.symm (by rw [(w18.1 5 (by omega)).2.2.1]; first | exact (by rw [zU_row _ _ _ (by omega)]; first | exact (by rw [zU_row _ _ _ (by omega)]; first | exact (by rw [zU_row _ _ _ (by omega)]; first | exact (by rw [(w13.1 5 (by omega)).2.2.1]; first | exact (by rw [(w12.1 5 (by omega)).2.2.1]; first | exact hrf | exact Eq.symm hrf) | exact Eq.symm (by rw [(w12.1 5 (by omega)).2.2.1]; first | exact hrf | exact Eq.symm hrf)) | exact Eq.symm (by rw [(w13.1 5 (by omega)).2.2.1]; first | exact (by rw [(w12.1 5 (by omega)).2.2.1]; first | exact hrf | exact Eq.symm hrf) | exact Eq.symm (by rw [(w12.1 5 (by omega)).2.2.1]; first | exact hrf | exact Eq.symm hrf))) | exact Eq.symm (by rw [zU_row _ _ _ (by omega)]; first | exact (by rw [(w13.1 5 (by omega)).2.2.1]; first | exact (by rw [(w12.1 5 (by omega)).2.2.1]; first | exact hrf | exact Eq.symm hrf) | exact Eq.symm (by rw [(w12.1 5 (by omega)).2.2.1]; first | exact hrf | exact Eq.symm hrf)) | exact Eq.symm (by rw [(w13.1 5 (by omega)).2.2.1]; first | exact (by rw [(w12.1 5 (by omega)).2.2.1]; first | exact hrf | exact Eq.symm hrf) | exact Eq.symm (by rw [(w12.1 5 (by omega)).2.2.1]; first | exact hrf | exact Eq.symm hrf)))) | exact Eq.symm (by rw [zU_row _ _ _ (by omega)]; first | exact (by rw [zU_row _ _ _ (by omega)]; first | exact (by rw [(w13.1 5 (by omega)).2.2.1]; first | exact (by rw [(w12.1 5 (by omega)).2.2.1]; first | exact hrf | exact Eq.symm hrf) | exact Eq.symm (by rw [(w12.1 5 (by omega)).2.2.1]; first | exact hrf | exact Eq.symm hrf)) | exact Eq.symm (by rw [(w13.1 5 (by omega)).2.2.1]; first | exact (by rw [(w12.1 5 (by omega)).2.2.1]; first | exact hrf | exact Eq.symm hrf) | exact Eq.symm (by rw [(w12.1 5 (by omega)).2.2.1]; first | exact hrf | exact Eq.symm hrf))) | exact Eq.symm (by rw [zU_row _ _ _ (by omega)]; first | exact (by rw [(w13.1 5 (by omega)).2.2.1]; first | exact (by rw [(w12.1 5 (by omega)).2.2.1]; first | exact hrf | exact Eq.symm hrf) | exact Eq.symm (by rw [(w12.1 5 (by omega)).2.2.1]; first | exact hrf | exact Eq.symm hrf)) | exact Eq.symm (by rw [(w13.1 5 (by omega)).2.2.1]; first | exact (by rw [(w12.1 5 (by omega)).2.2.1]; first | exact hrf | exact Eq.symm hrf) | exact Eq.symm (by rw [(w12.1 5 (by omega)).2.2.1]; first | exact hrf | exact Eq.symm hrf))))) | exact Eq.symm (by rw [zU_row _ _ _ (by omega)]; first | exact (by rw [zU_row _ _ _ (by omega)]; first | exact (by rw [zU_row _ _ _ (by omega)]; first | exact (by rw [(w13.1 5 (by omega)).2.2.1]; first | exact (by rw [(w12.1 5 (by omega)).2.2.1]; first | exact hrf | exact Eq.symm hrf) | exact Eq.symm (by rw [(w12.1 5 (by omega)).2.2.1]; first | exact hrf | exact Eq.symm hrf)) | exact Eq.symm (by rw [(w13.1 5 (by omega)).2.2.1]; first | exact (by rw [(w12.1 5 (by omega)).2.2.1]; first | exact hrf | exact Eq.symm hrf) | exact Eq.symm (by rw [(w12.1 5 (by omega)).2.2.1]; first | exact hrf | exact Eq.symm hrf))) | exact Eq.symm (by rw [zU_row _ _ _ (by omega)]; first | exact (by rw [(w13.1 5 (by omega)).2.2.1]; first | exact (by rw [(w12.1 5 (by omega)).2.2.1]; first | exact hrf | exact Eq.symm hrf) | exact Eq.symm (by rw [(w12.1 5 (by omega)).2.2.1]; first | exact hrf | exact Eq.symm hrf)) | exact Eq.symm (by rw [(w13.1 5 (by omega)).2.2.1]; first | exact (by rw [(w12.1 5 (by omega)).2.2.1]; first | exact hrf | exact Eq.symm hrf) | exact Eq.symm (by rw [(w12.1 5 (by omega)).2.2.1]; first | exact hrf | exact Eq.symm hrf)))) | exact Eq.symm (by rw [zU_row _ _ _ (by omega)]; first | exact (by rw [zU_row _ _ _ (by omega)]; first | exact (by rw [(w13.1 5 (by omega)).2.2.1]; first | exact (by rw [(w12.1 5 (by omega)).2.2.1]; first | exact hrf | exact Eq.symm hrf) | exact Eq.symm (by rw [(w12.1 5 (by omega)).2.2.1]; first | exact hrf | exact Eq.symm hrf)) | exact Eq.symm (by rw [(w13.1 5 (by omega)).2.2.1]; first | exact (by rw [(w12.1 5 (by omega)).2.2.1]; first | exact hrf | exact Eq.symm hrf) | exact Eq.symm (by rw [(w12.1 5 (by omega)).2.2.1]; first | exact hrf | exact Eq.symm hrf))) | exact Eq.symm (by rw [zU_row _ _ _ (by omega)]; first | exact (by rw [(w13.1 5 (by omega)).2.2.1]; first | exact (by rw [(w12.1 5 (by omega)).2.2.1]; first | exact hrf | exact Eq.symm hrf) | exact Eq.symm (by rw [(w12.1 5 (by omega)).2.2.1]; first | exact hrf | exact Eq.symm hrf)) | exact Eq.symm (by rw [(w13.1 5 (by omega)).2.2.1]; first | exact (by rw [(w12.1 5 (by omega)).2.2.1]; first | exact hrf | exact Eq.symm hrf) | exact Eq.symm (by rw [(w12.1 5 (by omega)).2.2.1]; first | exact hrf | exact Eq.symm hrf))))))); omega)
    subst p19e
    refine z_aload_n (pc2 := 43) rfl rfl rfl ?_
    refine z_getP (pc2 := 46) rfl rfl rfl rfl ((w18.1 _ (by omega)).1.trans ((r17 _ (by omega)).trans ((w13.1 _ (by omega)).1.trans ((w12.1 _ (by omega)).1.trans t5)))) ?_
    intro p20 p20e p20k
    replace p20k : p20 = some 8 := p20k; clear p20e; subst p20k
    refine z_iload_n (pc2 := 47) rfl rfl rfl ?_
    refine z_iald (pc2 := 48) rfl rfl ((w18.1 _ (by omega)).1.trans ((r17 _ (by omega)).trans ((w13.1 _ (by omega)).1.trans ((w12.1 _ (by omega)).1.trans t8)))) (by omega) (by omega) (by omega) ?_
    intro v21 e21 r21 k21
    replace k21 : (0 : Int) ≤ v21 ∧ v21 ≤ 23 := k21
    replace e21 : sd = v21 := by rw [e21]; first | exact (by rw [(w18.1 8 (by omega)).2.1]; first | exact (by rw [zU_row _ _ _ (by omega)]; first | exact (by rw [zU_row _ _ _ (by omega)]; first | exact (by rw [zU_row _ _ _ (by omega)]; first | exact (by rw [(w13.1 8 (by omega)).2.1]; first | exact (by rw [(w12.1 8 (by omega)).2.1]; first | exact hk8 | exact Eq.symm hk8) | exact Eq.symm (by rw [(w12.1 8 (by omega)).2.1]; first | exact hk8 | exact Eq.symm hk8)) | exact Eq.symm (by rw [(w13.1 8 (by omega)).2.1]; first | exact (by rw [(w12.1 8 (by omega)).2.1]; first | exact hk8 | exact Eq.symm hk8) | exact Eq.symm (by rw [(w12.1 8 (by omega)).2.1]; first | exact hk8 | exact Eq.symm hk8))) | exact Eq.symm (by rw [zU_row _ _ _ (by omega)]; first | exact (by rw [(w13.1 8 (by omega)).2.1]; first | exact (by rw [(w12.1 8 (by omega)).2.1]; first | exact hk8 | exact Eq.symm hk8) | exact Eq.symm (by rw [(w12.1 8 (by omega)).2.1]; first | exact hk8 | exact Eq.symm hk8)) | exact Eq.symm (by rw [(w13.1 8 (by omega)).2.1]; first | exact (by rw [(w12.1 8 (by omega)).2.1]; first | exact hk8 | exact Eq.symm hk8) | exact Eq.symm (by rw [(w12.1 8 (by omega)).2.1]; first | exact hk8 | exact Eq.symm hk8)))) | exact Eq.symm (by rw [zU_row _ _ _ (by omega)]; first | exact (by rw [zU_row _ _ _ (by omega)]; first | exact (by rw [(w13.1 8 (by omega)).2.1]; first | exact (by rw [(w12.1 8 (by omega)).2.1]; first | exact hk8 | exact Eq.symm hk8) | exact Eq.symm (by rw [(w12.1 8 (by omega)).2.1]; first | exact hk8 | exact Eq.symm hk8)) | exact Eq.symm (by rw [(w13.1 8 (by omega)).2.1]; first | exact (by rw [(w12.1 8 (by omega)).2.1]; first | exact hk8 | exact Eq.symm hk8) | exact Eq.symm (by rw [(w12.1 8 (by omega)).2.1]; first | exact hk8 | exact Eq.symm hk8))) | exact Eq.symm (by rw [zU_row _ _ _ (by omega)]; first | exact (by rw [(w13.1 8 (by omega)).2.1]; first | exact (by rw [(w12.1 8 (by omega)).2.1]; first | exact hk8 | exact Eq.symm hk8) | exact Eq.symm (by rw [(w12.1 8 (by omega)).2.1]; first | exact hk8 | exact Eq.symm hk8)) | exact Eq.symm (by rw [(w13.1 8 (by omega)).2.1]; first | exact (by rw [(w12.1 8 (by omega)).2.1]; first | exact hk8 | exact Eq.symm hk8) | exact Eq.symm (by rw [(w12.1 8 (by omega)).2.1]; first | exact hk8 | exact Eq.symm hk8))))) | exact Eq.symm (by rw [zU_row _ _ _ (by omega)]; first | exact (by rw [zU_row _ _ _ (by omega)]; first | exact (by rw [zU_row _ _ _ (by omega)]; first | exact (by rw [(w13.1 8 (by omega)).2.1]; first | exact (by rw [(w12.1 8 (by omega)).2.1]; first | exact hk8 | exact Eq.symm hk8) | exact Eq.symm (by rw [(w12.1 8 (by omega)).2.1]; first | exact hk8 | exact Eq.symm hk8)) | exact Eq.symm (by rw [(w13.1 8 (by omega)).2.1]; first | exact (by rw [(w12.1 8 (by omega)).2.1]; first | exact hk8 | exact Eq.symm hk8) | exact Eq.symm (by rw [(w12.1 8 (by omega)).2.1]; first | exact hk8 | exact Eq.symm hk8))) | exact Eq.symm (by rw [zU_row _ _ _ (by omega)]; first | exact (by rw [(w13.1 8 (by omega)).2.1]; first | exact (by rw [(w12.1 8 (by omega)).2.1]; first | exact hk8 | exact Eq.symm hk8) | exact Eq.symm (by rw [(w12.1 8 (by omega)).2.1]; first | exact hk8 | exact Eq.symm hk8)) | exact Eq.symm (by rw [(w13.1 8 (by omega)).2.1]; first | exact (by rw [(w12.1 8 (by omega)).2.1]; first | exact hk8 | exact Eq.symm hk8) | exact Eq.symm (by rw [(w12.1 8 (by omega)).2.1]; first | exact hk8 | exact Eq.symm hk8)))) | exact Eq.symm (by rw [zU_row _ _ _ (by omega)]; first | exact (by rw [zU_row _ _ _ (by omega)]; first | exact (by rw [(w13.1 8 (by omega)).2.1]; first | exact (by rw [(w12.1 8 (by omega)).2.1]; first | exact hk8 | exact Eq.symm hk8) | exact Eq.symm (by rw [(w12.1 8 (by omega)).2.1]; first | exact hk8 | exact Eq.symm hk8)) | exact Eq.symm (by rw [(w13.1 8 (by omega)).2.1]; first | exact (by rw [(w12.1 8 (by omega)).2.1]; first | exact hk8 | exact Eq.symm hk8) | exact Eq.symm (by rw [(w12.1 8 (by omega)).2.1]; first | exact hk8 | exact Eq.symm hk8))) | exact Eq.symm (by rw [zU_row _ _ _ (by omega)]; first | exact (by rw [(w13.1 8 (by omega)).2.1]; first | exact (by rw [(w12.1 8 (by omega)).2.1]; first | exact hk8 | exact Eq.symm hk8) | exact Eq.symm (by rw [(w12.1 8 (by omega)).2.1]; first | exact hk8 | exact Eq.symm hk8)) | exact Eq.symm (by rw [(w13.1 8 (by omega)).2.1]; first | exact (by rw [(w12.1 8 (by omega)).2.1]; first | exact hk8 | exact Eq.symm hk8) | exact Eq.symm (by rw [(w12.1 8 (by omega)).2.1]; first | exact hk8 | exact Eq.symm hk8)))))) | exact Eq.symm (by rw [(w18.1 8 (by omega)).2.1]; first | exact (by rw [zU_row _ _ _ (by omega)]; first | exact (by rw [zU_row _ _ _ (by omega)]; first | exact (by rw [zU_row _ _ _ (by omega)]; first | exact (by rw [(w13.1 8 (by omega)).2.1]; first | exact (by rw [(w12.1 8 (by omega)).2.1]; first | exact hk8 | exact Eq.symm hk8) | exact Eq.symm (by rw [(w12.1 8 (by omega)).2.1]; first | exact hk8 | exact Eq.symm hk8)) | exact Eq.symm (by rw [(w13.1 8 (by omega)).2.1]; first | exact (by rw [(w12.1 8 (by omega)).2.1]; first | exact hk8 | exact Eq.symm hk8) | exact Eq.symm (by rw [(w12.1 8 (by omega)).2.1]; first | exact hk8 | exact Eq.symm hk8))) | exact Eq.symm (by rw [zU_row _ _ _ (by omega)]; first | exact (by rw [(w13.1 8 (by omega)).2.1]; first | exact (by rw [(w12.1 8 (by omega)).2.1]; first | exact hk8 | exact Eq.symm hk8) | exact Eq.symm (by rw [(w12.1 8 (by omega)).2.1]; first | exact hk8 | exact Eq.symm hk8)) | exact Eq.symm (by rw [(w13.1 8 (by omega)).2.1]; first | exact (by rw [(w12.1 8 (by omega)).2.1]; first | exact hk8 | exact Eq.symm hk8) | exact Eq.symm (by rw [(w12.1 8 (by omega)).2.1]; first | exact hk8 | exact Eq.symm hk8)))) | exact Eq.symm (by rw [zU_row _ _ _ (by omega)]; first | exact (by rw [zU_row _ _ _ (by omega)]; first | exact (by rw [(w13.1 8 (by omega)).2.1]; first | exact (by rw [(w12.1 8 (by omega)).2.1]; first | exact hk8 | exact Eq.symm hk8) | exact Eq.symm (by rw [(w12.1 8 (by omega)).2.1]; first | exact hk8 | exact Eq.symm hk8)) | exact Eq.symm (by rw [(w13.1 8 (by omega)).2.1]; first | exact (by rw [(w12.1 8 (by omega)).2.1]; first | exact hk8 | exact Eq.symm hk8) | exact Eq.symm (by rw [(w12.1 8 (by omega)).2.1]; first | exact hk8 | exact Eq.symm hk8))) | exact Eq.symm (by rw [zU_row _ _ _ (by omega)]; first | exact (by rw [(w13.1 8 (by omega)).2.1]; first | exact (by rw [(w12.1 8 (by omega)).2.1]; first | exact hk8 | exact Eq.symm hk8) | exact Eq.symm (by rw [(w12.1 8 (by omega)).2.1]; first | exact hk8 | exact Eq.symm hk8)) | exact Eq.symm (by rw [(w13.1 8 (by omega)).2.1]; first | exact (by rw [(w12.1 8 (by omega)).2.1]; first | exact hk8 | exact Eq.symm hk8) | exact Eq.symm (by rw [(w12.1 8 (by omega)).2.1]; first | exact hk8 | exact Eq.symm hk8))))) | exact Eq.symm (by rw [zU_row _ _ _ (by omega)]; first | exact (by rw [zU_row _ _ _ (by omega)]; first | exact (by rw [zU_row _ _ _ (by omega)]; first | exact (by rw [(w13.1 8 (by omega)).2.1]; first | exact (by rw [(w12.1 8 (by omega)).2.1]; first | exact hk8 | exact Eq.symm hk8) | exact Eq.symm (by rw [(w12.1 8 (by omega)).2.1]; first | exact hk8 | exact Eq.symm hk8)) | exact Eq.symm (by rw [(w13.1 8 (by omega)).2.1]; first | exact (by rw [(w12.1 8 (by omega)).2.1]; first | exact hk8 | exact Eq.symm hk8) | exact Eq.symm (by rw [(w12.1 8 (by omega)).2.1]; first | exact hk8 | exact Eq.symm hk8))) | exact Eq.symm (by rw [zU_row _ _ _ (by omega)]; first | exact (by rw [(w13.1 8 (by omega)).2.1]; first | exact (by rw [(w12.1 8 (by omega)).2.1]; first | exact hk8 | exact Eq.symm hk8) | exact Eq.symm (by rw [(w12.1 8 (by omega)).2.1]; first | exact hk8 | exact Eq.symm hk8)) | exact Eq.symm (by rw [(w13.1 8 (by omega)).2.1]; first | exact (by rw [(w12.1 8 (by omega)).2.1]; first | exact hk8 | exact Eq.symm hk8) | exact Eq.symm (by rw [(w12.1 8 (by omega)).2.1]; first | exact hk8 | exact Eq.symm hk8)))) | exact Eq.symm (by rw [zU_row _ _ _ (by omega)]; first | exact (by rw [zU_row _ _ _ (by omega)]; first | exact (by rw [(w13.1 8 (by omega)).2.1]; first | exact (by rw [(w12.1 8 (by omega)).2.1]; first | exact hk8 | exact Eq.symm hk8) | exact Eq.symm (by rw [(w12.1 8 (by omega)).2.1]; first | exact hk8 | exact Eq.symm hk8)) | exact Eq.symm (by rw [(w13.1 8 (by omega)).2.1]; first | exact (by rw [(w12.1 8 (by omega)).2.1]; first | exact hk8 | exact Eq.symm hk8) | exact Eq.symm (by rw [(w12.1 8 (by omega)).2.1]; first | exact hk8 | exact Eq.symm hk8))) | exact Eq.symm (by rw [zU_row _ _ _ (by omega)]; first | exact (by rw [(w13.1 8 (by omega)).2.1]; first | exact (by rw [(w12.1 8 (by omega)).2.1]; first | exact hk8 | exact Eq.symm hk8) | exact Eq.symm (by rw [(w12.1 8 (by omega)).2.1]; first | exact hk8 | exact Eq.symm hk8)) | exact Eq.symm (by rw [(w13.1 8 (by omega)).2.1]; first | exact (by rw [(w12.1 8 (by omega)).2.1]; first | exact hk8 | exact Eq.symm hk8) | exact Eq.symm (by rw [(w12.1 8 (by omega)).2.1]; first | exact hk8 | exact Eq.symm hk8)))))) | (simp [zU]; first | done | exact (by rw [(w18.1 8 (by omega)).2.1]; first | exact (by rw [zU_row _ _ _ (by omega)]; first | exact (by rw [zU_row _ _ _ (by omega)]; first | exact (by rw [zU_row _ _ _ (by omega)]; first | exact (by rw [(w13.1 8 (by omega)).2.1]; first | exact (by rw [(w12.1 8 (by omega)).2.1]; first | exact hk8 | exact Eq.symm hk8) | exact Eq.symm (by rw [(w12.1 8 (by omega)).2.1]; first | exact hk8 | exact Eq.symm hk8)) | exact Eq.symm (by rw [(w13.1 8 (by omega)).2.1]; first | exact (by rw [(w12.1 8 (by omega)).2.1]; first | exact hk8 | exact Eq.symm hk8) | exact Eq.symm (by rw [(w12.1 8 (by omega)).2.1]; first | exact hk8 | exact Eq.symm hk8))) | exact Eq.symm (by rw [zU_row _ _ _ (by omega)]; first | exact (by rw [(w13.1 8 (by omega)).2.1]; first | exact (by rw [(w12.1 8 (by omega)).2.1]; first | exact hk8 | exact Eq.symm hk8) | exact Eq.symm (by rw [(w12.1 8 (by omega)).2.1]; first | exact hk8 | exact Eq.symm hk8)) | exact Eq.symm (by rw [(w13.1 8 (by omega)).2.1]; first | exact (by rw [(w12.1 8 (by omega)).2.1]; first | exact hk8 | exact Eq.symm hk8) | exact Eq.symm (by rw [(w12.1 8 (by omega)).2.1]; first | exact hk8 | exact Eq.symm hk8)))) | exact Eq.symm (by rw [zU_row _ _ _ (by omega)]; first | exact (by rw [zU_row _ _ _ (by omega)]; first | exact (by rw [(w13.1 8 (by omega)).2.1]; first | exact (by rw [(w12.1 8 (by omega)).2.1]; first | exact hk8 | exact Eq.symm hk8) | exact Eq.symm (by rw [(w12.1 8 (by omega)).2.1]; first | exact hk8 | exact Eq.symm hk8)) | exact Eq.symm (by rw [(w13.1 8 (by omega)).2.1]; first | exact (by rw [(w12.1 8 (by omega)).2.1]; first | exact hk8 | exact Eq.symm hk8) | exact Eq.symm (by rw [(w12.1 8 (by omega)).2.1]; first | exact hk8 | exact Eq.symm hk8))) | exact Eq.symm (by rw [zU_row _ _ _ (by omega)]; first | exact (by rw [(w13.1 8 (by omega)).2.1]; first | exact (by rw [(w12.1 8 (by omega)).2.1]; first | exact hk8 | exact Eq.symm hk8) | exact Eq.symm (by rw [(w12.1 8 (by omega)).2.1]; first | exact hk8 | exact Eq.symm hk8)) | exact Eq.symm (by rw [(w13.1 8 (by omega)).2.1]; first | exact (by rw [(w12.1 8 (by omega)).2.1]; first | exact hk8 | exact Eq.symm hk8) | exact Eq.symm (by rw [(w12.1 8 (by omega)).2.1]; first | exact hk8 | exact Eq.symm hk8))))) | exact Eq.symm (by rw [zU_row _ _ _ (by omega)]; first | exact (by rw [zU_row _ _ _ (by omega)]; first | exact (by rw [zU_row _ _ _ (by omega)]; first | exact (by rw [(w13.1 8 (by omega)).2.1]; first | exact (by rw [(w12.1 8 (by omega)).2.1]; first | exact hk8 | exact Eq.symm hk8) | exact Eq.symm (by rw [(w12.1 8 (by omega)).2.1]; first | exact hk8 | exact Eq.symm hk8)) | exact Eq.symm (by rw [(w13.1 8 (by omega)).2.1]; first | exact (by rw [(w12.1 8 (by omega)).2.1]; first | exact hk8 | exact Eq.symm hk8) | exact Eq.symm (by rw [(w12.1 8 (by omega)).2.1]; first | exact hk8 | exact Eq.symm hk8))) | exact Eq.symm (by rw [zU_row _ _ _ (by omega)]; first | exact (by rw [(w13.1 8 (by omega)).2.1]; first | exact (by rw [(w12.1 8 (by omega)).2.1]; first | exact hk8 | exact Eq.symm hk8) | exact Eq.symm (by rw [(w12.1 8 (by omega)).2.1]; first | exact hk8 | exact Eq.symm hk8)) | exact Eq.symm (by rw [(w13.1 8 (by omega)).2.1]; first | exact (by rw [(w12.1 8 (by omega)).2.1]; first | exact hk8 | exact Eq.symm hk8) | exact Eq.symm (by rw [(w12.1 8 (by omega)).2.1]; first | exact hk8 | exact Eq.symm hk8)))) | exact Eq.symm (by rw [zU_row _ _ _ (by omega)]; first | exact (by rw [zU_row _ _ _ (by omega)]; first | exact (by rw [(w13.1 8 (by omega)).2.1]; first | exact (by rw [(w12.1 8 (by omega)).2.1]; first | exact hk8 | exact Eq.symm hk8) | exact Eq.symm (by rw [(w12.1 8 (by omega)).2.1]; first | exact hk8 | exact Eq.symm hk8)) | exact Eq.symm (by rw [(w13.1 8 (by omega)).2.1]; first | exact (by rw [(w12.1 8 (by omega)).2.1]; first | exact hk8 | exact Eq.symm hk8) | exact Eq.symm (by rw [(w12.1 8 (by omega)).2.1]; first | exact hk8 | exact Eq.symm hk8))) | exact Eq.symm (by rw [zU_row _ _ _ (by omega)]; first | exact (by rw [(w13.1 8 (by omega)).2.1]; first | exact (by rw [(w12.1 8 (by omega)).2.1]; first | exact hk8 | exact Eq.symm hk8) | exact Eq.symm (by rw [(w12.1 8 (by omega)).2.1]; first | exact hk8 | exact Eq.symm hk8)) | exact Eq.symm (by rw [(w13.1 8 (by omega)).2.1]; first | exact (by rw [(w12.1 8 (by omega)).2.1]; first | exact hk8 | exact Eq.symm hk8) | exact Eq.symm (by rw [(w12.1 8 (by omega)).2.1]; first | exact hk8 | exact Eq.symm hk8)))))) | exact Eq.symm (by rw [(w18.1 8 (by omega)).2.1]; first | exact (by rw [zU_row _ _ _ (by omega)]; first | exact (by rw [zU_row _ _ _ (by omega)]; first | exact (by rw [zU_row _ _ _ (by omega)]; first | exact (by rw [(w13.1 8 (by omega)).2.1]; first | exact (by rw [(w12.1 8 (by omega)).2.1]; first | exact hk8 | exact Eq.symm hk8) | exact Eq.symm (by rw [(w12.1 8 (by omega)).2.1]; first | exact hk8 | exact Eq.symm hk8)) | exact Eq.symm (by rw [(w13.1 8 (by omega)).2.1]; first | exact (by rw [(w12.1 8 (by omega)).2.1]; first | exact hk8 | exact Eq.symm hk8) | exact Eq.symm (by rw [(w12.1 8 (by omega)).2.1]; first | exact hk8 | exact Eq.symm hk8))) | exact Eq.symm (by rw [zU_row _ _ _ (by omega)]; first | exact (by rw [(w13.1 8 (by omega)).2.1]; first | exact (by rw [(w12.1 8 (by omega)).2.1]; first | exact hk8 | exact Eq.symm hk8) | exact Eq.symm (by rw [(w12.1 8 (by omega)).2.1]; first | exact hk8 | exact Eq.symm hk8)) | exact Eq.symm (by rw [(w13.1 8 (by omega)).2.1]; first | exact (by rw [(w12.1 8 (by omega)).2.1]; first | exact hk8 | exact Eq.symm hk8) | exact Eq.symm (by rw [(w12.1 8 (by omega)).2.1]; first | exact hk8 | exact Eq.symm hk8)))) | exact Eq.symm (by rw [zU_row _ _ _ (by omega)]; first | exact (by rw [zU_row _ _ _ (by omega)]; first | exact (by rw [(w13.1 8 (by omega)).2.1]; first | exact (by rw [(w12.1 8 (by omega)).2.1]; first | exact hk8 | exact Eq.symm hk8) | exact Eq.symm (by rw [(w12.1 8 (by omega)).2.1]; first | exact hk8 | exact Eq.symm hk8)) | exact Eq.symm (by rw [(w13.1 8 (by omega)).2.1]; first | exact (by rw [(w12.1 8 (by omega)).2.1]; first | exact hk8 | exact Eq.symm hk8) | exact Eq.symm (by rw [(w12.1 8 (by omega)).2.1]; first | exact hk8 | exact Eq.symm hk8))) | exact Eq.symm (by rw [zU_row _ _ _ (by omega)]; first | exact (by rw [(w13.1 8 (by omega)).2.1]; first | exact (by rw [(w12.1 8 (by omega)).2.1]; first | exact hk8 | exact Eq.symm hk8) | exact Eq.symm (by rw [(w12.1 8 (by omega)).2.1]; first | exact hk8 | exact Eq.symm hk8)) | exact Eq.symm (by rw [(w13.1 8 (by omega)).2.1]; first | exact (by rw [(w12.1 8 (by omega)).2.1]; first | exact hk8 | exact Eq.symm hk8) | exact Eq.symm (by rw [(w12.1 8 (by omega)).2.1]; first | exact hk8 | exact Eq.symm hk8))))) | exact Eq.symm (by rw [zU_row _ _ _ (by omega)]; first | exact (by rw [zU_row _ _ _ (by omega)]; first | exact (by rw [zU_row _ _ _ (by omega)]; first | exact (by rw [(w13.1 8 (by omega)).2.1]; first | exact (by rw [(w12.1 8 (by omega)).2.1]; first | exact hk8 | exact Eq.symm hk8) | exact Eq.symm (by rw [(w12.1 8 (by omega)).2.1]; first | exact hk8 | exact Eq.symm hk8)) | exact Eq.symm (by rw [(w13.1 8 (by omega)).2.1]; first | exact (by rw [(w12.1 8 (by omega)).2.1]; first | exact hk8 | exact Eq.symm hk8) | exact Eq.symm (by rw [(w12.1 8 (by omega)).2.1]; first | exact hk8 | exact Eq.symm hk8))) | exact Eq.symm (by rw [zU_row _ _ _ (by omega)]; first | exact (by rw [(w13.1 8 (by omega)).2.1]; first | exact (by rw [(w12.1 8 (by omega)).2.1]; first | exact hk8 | exact Eq.symm hk8) | exact Eq.symm (by rw [(w12.1 8 (by omega)).2.1]; first | exact hk8 | exact Eq.symm hk8)) | exact Eq.symm (by rw [(w13.1 8 (by omega)).2.1]; first | exact (by rw [(w12.1 8 (by omega)).2.1]; first | exact hk8 | exact Eq.symm hk8) | exact Eq.symm (by rw [(w12.1 8 (by omega)).2.1]; first | exact hk8 | exact Eq.symm hk8)))) | exact Eq.symm (by rw [zU_row _ _ _ (by omega)]; first | exact (by rw [zU_row _ _ _ (by omega)]; first | exact (by rw [(w13.1 8 (by omega)).2.1]; first | exact (by rw [(w12.1 8 (by omega)).2.1]; first | exact hk8 | exact Eq.symm hk8) | exact Eq.symm (by rw [(w12.1 8 (by omega)).2.1]; first | exact hk8 | exact Eq.symm hk8)) | exact Eq.symm (by rw [(w13.1 8 (by omega)).2.1]; first | exact (by rw [(w12.1 8 (by omega)).2.1]; first | exact hk8 | exact Eq.symm hk8) | exact Eq.symm (by rw [(w12.1 8 (by omega)).2.1]; first | exact hk8 | exact Eq.symm hk8))) | exact Eq.symm (by rw [zU_row _ _ _ (by omega)]; first | exact (by rw [(w13.1 8 (by omega)).2.1]; first | exact (by rw [(w12.1 8 (by omega)).2.1]; first | exact hk8 | exact Eq.symm hk8) | exact Eq.symm (by rw [(w12.1 8 (by omega)).2.1]; first | exact hk8 | exact Eq.symm hk8)) | exact Eq.symm (by rw [(w13.1 8 (by omega)).2.1]; first | exact (by rw [(w12.1 8 (by omega)).2.1]; first | exact hk8 | exact Eq.symm hk8) | exact Eq.symm (by rw [(w12.1 8 (by omega)).2.1]; first | exact hk8 | exact Eq.symm hk8)))))) | omega) | (refine Eq.trans (congrArg _ ?_) (Eq.symm (by rw [(w18.1 8 (by omega)).2.1]; first | exact (by rw [zU_row _ _ _ (by omega)]; first | exact (by rw [zU_row _ _ _ (by omega)]; first | exact (by rw [zU_row _ _ _ (by omega)]; first | exact (by rw [(w13.1 8 (by omega)).2.1]; first | exact (by rw [(w12.1 8 (by omega)).2.1]; first | exact hk8 | exact Eq.symm hk8) | exact Eq.symm (by rw [(w12.1 8 (by omega)).2.1]; first | exact hk8 | exact Eq.symm hk8)) | exact Eq.symm (by rw [(w13.1 8 (by omega)).2.1]; first | exact (by rw [(w12.1 8 (by omega)).2.1]; first | exact hk8 | exact Eq.symm hk8) | exact Eq.symm (by rw [(w12.1 8 (by omega)).2.1]; first | exact hk8 | exact Eq.symm hk8))) | exact Eq.symm (by rw [zU_row _ _ _ (by omega)]; first | exact (by rw [(w13.1 8 (by omega)).2.1]; first | exact (by rw [(w12.1 8 (by omega)).2.1]; first | exact hk8 | exact Eq.symm hk8) | exact Eq.symm (by rw [(w12.1 8 (by omega)).2.1]; first | exact hk8 | exact Eq.symm hk8)) | exact Eq.symm (by rw [(w13.1 8 (by omega)).2.1]; first | exact (by rw [(w12.1 8 (by omega)).2.1]; first | exact hk8 | exact Eq.symm hk8) | exact Eq.symm (by rw [(w12.1 8 (by omega)).2.1]; first | exact hk8 | exact Eq.symm hk8)))) | exact Eq.symm (by rw [zU_row _ _ _ (by omega)]; first | exact (by rw [zU_row _ _ _ (by omega)]; first | exact (by rw [(w13.1 8 (by omega)).2.1]; first | exact (by rw [(w12.1 8 (by omega)).2.1]; first | exact hk8 | exact Eq.symm hk8) | exact Eq.symm (by rw [(w12.1 8 (by omega)).2.1]; first | exact hk8 | exact Eq.symm hk8)) | exact Eq.symm (by rw [(w13.1 8 (by omega)).2.1]; first | exact (by rw [(w12.1 8 (by omega)).2.1]; first | exact hk8 | exact Eq.symm hk8) | exact Eq.symm (by rw [(w12.1 8 (by omega)).2.1]; first | exact hk8 | exact Eq.symm hk8))) | exact Eq.symm (by rw [zU_row _ _ _ (by omega)]; first | exact (by rw [(w13.1 8 (by omega)).2.1]; first | exact (by rw [(w12.1 8 (by omega)).2.1]; first | exact hk8 | exact Eq.symm hk8) | exact Eq.symm (by rw [(w12.1 8 (by omega)).2.1]; first | exact hk8 | exact Eq.symm hk8)) | exact Eq.symm (by rw [(w13.1 8 (by omega)).2.1]; first | exact (by rw [(w12.1 8 (by omega)).2.1]; first | exact hk8 | exact Eq.symm hk8) | exact Eq.symm (by rw [(w12.1 8 (by omega)).2.1]; first | exact hk8 | exact Eq.symm hk8))))) | exact Eq.symm (by rw [zU_row _ _ _ (by omega)]; first | exact (by rw [zU_row _ _ _ (by omega)]; first | exact (by rw [zU_row _ _ _ (by omega)]; first | exact (by rw [(w13.1 8 (by omega)).2.1]; first | exact (by rw [(w12.1 8 (by omega)).2.1]; first | exact hk8 | exact Eq.symm hk8) | exact Eq.symm (by rw [(w12.1 8 (by omega)).2.1]; first | exact hk8 | exact Eq.symm hk8)) | exact Eq.symm (by rw [(w13.1 8 (by omega)).2.1]; first | exact (by rw [(w12.1 8 (by omega)).2.1]; first | exact hk8 | exact Eq.symm hk8) | exact Eq.symm (by rw [(w12.1 8 (by omega)).2.1]; first | exact hk8 | exact Eq.symm hk8))) | exact Eq.symm (by rw [zU_row _ _ _ (by omega)]; first | exact (by rw [(w13.1 8 (by omega)).2.1]; first | exact (by rw [(w12.1 8 (by omega)).2.1]; first | exact hk8 | exact Eq.symm hk8) | exact Eq.symm (by rw [(w12.1 8 (by omega)).2.1]; first | exact hk8 | exact Eq.symm hk8)) | exact Eq.symm (by rw [(w13.1 8 (by omega)).2.1]; first | exact (by rw [(w12.1 8 (by omega)).2.1]; first | exact hk8 | exact Eq.symm hk8) | exact Eq.symm (by rw [(w12.1 8 (by omega)).2.1]; first | exact hk8 | exact Eq.symm hk8)))) | exact Eq.symm (by rw [zU_row _ _ _ (by omega)]; first | exact (by rw [zU_row _ _ _ (by omega)]; first | exact (by rw [(w13.1 8 (by omega)).2.1]; first | exact (by rw [(w12.1 8 (by omega)).2.1]; first | exact hk8 | exact Eq.symm hk8) | exact Eq.symm (by rw [(w12.1 8 (by omega)).2.1]; first | exact hk8 | exact Eq.symm hk8)) | exact Eq.symm (by rw [(w13.1 8 (by omega)).2.1]; first | exact (by rw [(w12.1 8 (by omega)).2.1]; first | exact hk8 | exact Eq.symm hk8) | exact Eq.symm (by rw [(w12.1 8 (by omega)).2.1]; first | exact hk8 | exact Eq.symm hk8))) | exact Eq.symm (by rw [zU_row _ _ _ (by omega)]; first | exact (by rw [(w13.1 8 (by omega)).2.1]; first | exact (by rw [(w12.1 8 (by omega)).2.1]; first | exact hk8 | exact Eq.symm hk8) | exact Eq.symm (by rw [(w12.1 8 (by omega)).2.1]; first | exact hk8 | exact Eq.symm hk8)) | exact Eq.symm (by rw [(w13.1 8 (by omega)).2.1]; first | exact (by rw [(w12.1 8 (by omega)).2.1]; first | exact hk8 | exact Eq.symm hk8) | exact Eq.symm (by rw [(w12.1 8 (by omega)).2.1]; first | exact hk8 | exact Eq.symm hk8))))))); omega)
    subst e21
    refine z_iconst (pc2 := 49) rfl rfl ?_
    refine z_callP (y2 := 83) (as := [_, _, _, _]) (rest := [_, _, _, _]) (pc2 := 52) rfl rfl rfl rfl ?_
    refine z_inl ?_
    refine z_lv (lv2 := [(0, _), (1, _), (2, _), (3, _), (4, _)]) ⟨rfl, rfl, rfl, rfl, rfl, trivial⟩ ?_
    refine z_aload_n (pc2 := 1) rfl rfl rfl ?_
    refine z_obj (pc2 := 4) rfl rfl rfl rfl ?_
    refine z_aload_n (pc2 := 5) rfl rfl rfl ?_
    refine z_iload_n (pc2 := 6) rfl rfl rfl ?_
    refine z_putI (pc2 := 9) rfl rfl rfl rfl rfl rfl w18.2.1 (by omega) True.intro ?_
    refine z_aload_n (pc2 := 10) rfl rfl rfl ?_
    refine z_aload_n (pc2 := 11) rfl rfl rfl ?_
    refine z_putP (pc2 := 14) rfl rfl rfl rfl (by first | exact z_fitO _ _ | exact z_fitA _ _) rfl w18.2.1 True.intro ?_
    refine z_aload_n (pc2 := 15) rfl rfl rfl ?_
    refine z_iload_n (pc2 := 16) rfl rfl rfl ?_
    refine z_putI (pc2 := 19) rfl rfl rfl rfl rfl rfl w18.2.1 (by omega) True.intro ?_
    refine z_aload_n (pc2 := 20) rfl rfl rfl ?_
    refine z_iload (pc2 := 22) rfl rfl rfl ?_
    refine z_putI (pc2 := 25) rfl rfl rfl rfl rfl rfl w18.2.1 (by omega) True.intro ?_
    refine z_aload_n (pc2 := 26) rfl rfl rfl ?_
    refine z_aconst_null (pc2 := 27) rfl rfl ?_
    refine z_putP (pc2 := 30) rfl rfl rfl rfl (by first | exact z_fitO _ _ | exact z_fitA _ _) rfl w18.2.1 True.intro ?_
    refine z_aload_n (pc2 := 31) rfl rfl rfl ?_
    refine z_aconst_null (pc2 := 32) rfl rfl ?_
    refine z_putP (pc2 := 35) rfl rfl rfl rfl (by first | exact z_fitO _ _ | exact z_fitA _ _) rfl w18.2.1 True.intro ?_
    refine z_ret rfl rfl ?_
    show zB _ _ _ _ _ _ [_, _, _, _] _ _
    refine zB_rtO (g := 1) (gs := [0, un]) w18.2.1 (zSort_I (cd := (sd)) (by simp [zU]) (by simp [zU]) (by omega)) (zSort_P (q := fo) (by simp [zU]) (by omega) ((w18.1 _ (by omega)).1.trans ((r17 _ (by omega)).trans ((w13.1 _ (by omega)).1.trans ((w12.1 _ (by omega)).1.trans tfo)))) (by omega) (by simp [zU]) (by simp [zU]) (by omega)) (fun T22 r22 t22 m22 => ?_)
    refine z_callP (y2 := 84) (as := [_, _]) (rest := [_]) (pc2 := 55) rfl rfl rfl rfl ?_
    refine z_inl ?_
    refine z_lv (lv2 := [(0, _), (1, _), (2, _)]) ⟨rfl, rfl, rfl, trivial⟩ ?_
    refine z_aload_n (pc2 := 1) rfl rfl rfl ?_
    refine z_obj (pc2 := 4) rfl rfl rfl rfl ?_
    refine z_aload_n (pc2 := 5) rfl rfl rfl ?_
    refine z_iconst (pc2 := 6) rfl rfl ?_
    refine z_putI (pc2 := 9) rfl rfl rfl rfl rfl rfl ((r22 _ (by omega)).trans ((w18.1 _ (by omega)).1.trans ((r17 _ (by omega)).trans ((w13.1 _ (by omega)).1.trans w12.2.1)))) (by omega) True.intro ?_
    refine z_aload_n (pc2 := 10) rfl rfl rfl ?_
    refine z_aload_n (pc2 := 11) rfl rfl rfl ?_
    refine z_getP (pc2 := 14) rfl rfl rfl rfl ((r22 _ (by omega)).trans ((w18.1 _ (by omega)).1.trans t17)) ?_
    intro p23 p23e p23k
    obtain ⟨q24, rfl, q249, tq24, q24b⟩ := p23k
    replace tq24 : _ = ((1, 3, [un]) : zT) := tq24
    refine zB_le tq24 trivial (fun q24l => ?_)
    refine z_putP (pc2 := 17) rfl rfl rfl rfl (by first | exact z_fitO _ _ | exact z_fitA _ _) rfl ((r22 _ (by omega)).trans ((w18.1 _ (by omega)).1.trans ((r17 _ (by omega)).trans ((w13.1 _ (by omega)).1.trans w12.2.1)))) True.intro ?_
    refine z_aload_n (pc2 := 18) rfl rfl rfl ?_
    refine z_iconst (pc2 := 19) rfl rfl ?_
    refine z_putI (pc2 := 22) rfl rfl rfl rfl rfl rfl ((r22 _ (by omega)).trans ((w18.1 _ (by omega)).1.trans ((r17 _ (by omega)).trans ((w13.1 _ (by omega)).1.trans w12.2.1)))) (by omega) True.intro ?_
    refine z_aload_n (pc2 := 23) rfl rfl rfl ?_
    refine z_iconst (pc2 := 24) rfl rfl ?_
    refine z_putI (pc2 := 27) rfl rfl rfl rfl rfl rfl ((r22 _ (by omega)).trans ((w18.1 _ (by omega)).1.trans ((r17 _ (by omega)).trans ((w13.1 _ (by omega)).1.trans w12.2.1)))) (by omega) True.intro ?_
    refine z_aload_n (pc2 := 28) rfl rfl rfl ?_
    refine z_aload_n (pc2 := 29) rfl rfl rfl ?_
    refine z_putP (pc2 := 32) rfl rfl rfl rfl (by first | exact z_fitO _ _ | exact z_fitA _ _) rfl ((r22 _ (by omega)).trans ((w18.1 _ (by omega)).1.trans ((r17 _ (by omega)).trans ((w13.1 _ (by omega)).1.trans w12.2.1)))) True.intro ?_
    refine z_aload_n (pc2 := 33) rfl rfl rfl ?_
    refine z_aload_n (pc2 := 34) rfl rfl rfl ?_
    refine z_putP (pc2 := 37) rfl rfl rfl rfl (by first | exact z_fitO _ _ | exact z_fitA _ _) rfl ((r22 _ (by omega)).trans ((w18.1 _ (by omega)).1.trans ((r17 _ (by omega)).trans ((w13.1 _ (by omega)).1.trans w12.2.1)))) True.intro ?_
    refine z_ret rfl rfl ?_
    show zB _ _ _ _ _ _ [_] _ _
    refine zB_rtO (g := 1) (gs := [5, un]) ((r22 _ (by omega)).trans ((w18.1 _ (by omega)).1.trans ((r17 _ (by omega)).trans ((w13.1 _ (by omega)).1.trans w12.2.1)))) (zSort_I (cd := 0) (by simp [zU]) (by simp [zU]) (by omega)) (zStk_P (q := q24) (a := ((n + 1) + 1)) (b := (((n + 1) + 1) + 1)) (by simp [zU]) (by omega) tq24 (by omega) (by simp [zU]) (by simp [zU]) (by omega) (by omega) ⟨_, _, ((r22 _ (by omega)).trans ((w18.1 _ (by omega)).1.trans t17)), by omega, by omega⟩ ⟨_, _, t22, by omega, by omega⟩) (fun T25 r25 t25 m25 => ?_)
    refine z_aret rfl rfl ?_
    exact hK _ _ _ _ _ _ _ (zTn_r (zTn_r (zTn_n (zTn_r (zTn_n (zTn_n zTn_rf w12 (by omega)) w13 (by omega)) r17 (by omega)) w18 (by omega)) r22 (by omega)) r25 (by omega)) (zTm_tr (zTm_tr (zTm_tr (zTm_tr (zTm_tr (zTm_tr (zTm_rf _) (zTk_m w12.2.2.2.2)) (zTk_m w13.2.2.2.2)) m17) (zTk_m w18.2.2.2.2)) m22) m25) (zQs_u (zQs_u (zQs_u (zQs_u (zQs_u (zQs_u (zQs_n (zQs_u (zQs_u (zQs_u (zQs_n (zQs_n zQs_rf w12 (fun _ => by unfold zIn; omega)) w13 (fun _ => by unfold zIn; omega)) (by unfold zIn; omega)) (by unfold zIn; omega)) (by unfold zIn; omega)) w18 (fun _ => by unfold zIn; omega)) (by unfold zIn; omega)) (by unfold zIn; omega)) (by unfold zIn; omega)) (by unfold zIn; omega)) (by unfold zIn; omega)) (by unfold zIn; omega)) (zPs_v (zPs_v (zPs_v (zPs_v (zPs_v (zPs_v (zPs_n (zPs_v (zPs_v (zPs_v (zPs_n (zPs_n zPs_rf w12 (fun _ => by unfold zIn; omega)) w13 (fun _ => by unfold zIn; omega)) (by unfold zIn; omega)) (by unfold zIn; omega)) (by unfold zIn; omega)) w18 (fun _ => by unfold zIn; omega)) (by unfold zIn; omega)) (by unfold zIn; omega)) (by unfold zIn; omega)) (by unfold zIn; omega)) (by unfold zIn; omega)) (by unfold zIn; omega)) (by omega) (by omega) ⟨_, _, t25, by omega, by omega⟩ (by omega)
set_option maxHeartbeats 8000000 in
theorem cl_Composer_makeCalls2 {L : Nat} {xs : Nat → Int32} {n sl : Nat} {T : Nat → zT} {I : Nat → Nat → Int} {P : Nat → Nat → Option Nat} {K : List zV → zH → Prop} {a w c un u : Int} {ar : Nat} (hn : 90 ≤ n) (hC : ∀ a, 1 ≤ a → a ≤ 55 → T a = zFixC a) (ha : 0 ≤ a ∧ a ≤ 40) (hw : 0 ≤ w ∧ w ≤ 40) (hc : 0 ≤ c ∧ c ≤ 40) (hun : 0 ≤ un ∧ un ≤ 24) (hu : 0 ≤ u ∧ u ≤ 40) (hrd : P 9 6 = some 5) (htk : zTkn un c I) (hawc : a ≤ w ∧ w ≤ c) (ta : T ar = (2, 0, [u, 9])) (al : ar ≤ n) (a9 : 91 ≤ ar) (hu : u = zCt zSev (I 6) a.toNat (w - a).toNat) (hK : ∀ I2 G2, (∀ b k, b ≠ ar → I2 b k = I b k) → K [.inr (.inl (some ar))] (n, sl, T, I2, P, G2)) (m : Nat) : ∀ (I2 : Nat → Nat → Int) (G2 : Nat → Nat → Int), ∀ (j k : Int), 0 ≤ j ∧ j ≤ 40 → 0 ≤ k ∧ k ≤ 40 → (∀ b k, b ≠ ar → I2 b k = I b k) → a ≤ k ∧ k ≤ w → j = zCt zSev (I 6) a.toNat (k - a).toNat → (40 - k).toNat < m → zB zMd L xs 20 51 [(0, .inr (.inl (some 9))), (1, .inl a), (2, .inl w), (4, .inr (.inl (some ar))), (5, .inl j), (6, .inl k)] [] (n, sl, T, I2, P, G2) K := by
  have t5 : T 5 = (1, 7, [1]) := hC 5 (by decide) (by decide)
  have t6 : T 6 = (2, 0, [40, 20]) := hC 6 (by decide) (by decide)
  have t7 : T 7 = (2, 0, [40, 21]) := hC 7 (by decide) (by decide)
  have t9 : T 9 = (1, 0, [1]) := hC 9 (by decide) (by decide)
  induction m with
  | zero => intro I2 G2 j k hj hk hI2 hb3 hs6 hm; omega
  | succ m ih =>
    intro I2 G2 j k hj hk hI2 hb3 hs6 hm
    refine z_iload (pc2 := 53) rfl rfl rfl ?_
    refine z_iload_n (pc2 := 54) rfl rfl rfl ?_
    refine z_icmp_ge (t := 96) (pc2 := 57) rfl rfl rfl (by omega) (by omega) (fun c1 => ?_) (fun c1 => ?_)
    ·
      refine z_aload (pc2 := 98) rfl rfl rfl ?_
      refine z_aret rfl rfl ?_
      exact hK _ _ hI2
    ·
      refine z_aload_n (pc2 := 58) rfl rfl rfl ?_
      refine z_getP (pc2 := 61) rfl rfl rfl rfl t9 ?_
      intro p2 p2e p2k
      clear p2k; replace p2e : p2 = some 5 := by rw [p2e]; first | exact hrd | exact Eq.symm hrd | (simp [zU]; first | done | exact hrd | exact Eq.symm hrd | omega) | (refine Eq.trans (congrArg _ ?_) (Eq.symm hrd); omega)
      subst p2e
      refine z_getP (pc2 := 64) rfl rfl rfl rfl t5 ?_
      intro p3 p3e p3k
      replace p3k : p3 = some 6 := p3k; clear p3e; subst p3k
      refine z_iload (pc2 := 66) rfl rfl rfl ?_
      refine z_iald (pc2 := 67) rfl rfl t6 (by omega) (by omega) (by omega) ?_
      intro v4 e4 r4 k4
      replace k4 : (0 : Int) ≤ v4 ∧ v4 ≤ 7 := k4
      refine z_bipush (pc2 := 69) rfl rfl (by decide) ?_
      refine z_icmp_ne (t := 90) (pc2 := 72) rfl rfl rfl (by omega) (by omega) (fun c5 => ?_) (fun c5 => ?_)
      ·
        refine z_iinc (lv2 := [(6, _), (0, _), (1, _), (2, _), (4, _), (5, _)]) (pc2 := 93) rfl rfl rfl rfl rfl ?_
        refine z_goto (pc2 := 51) rfl rfl ?_
        refine z_lv (lv2 := [(0, _), (1, _), (2, _), (4, _), (5, _), (6, _)]) ⟨rfl, rfl, rfl, rfl, rfl, rfl, trivial⟩ ?_
        exact ih _ _ _ _ (by omega) (by omega) (fun b k h => by first | exact hI2 b k h | (rw [zU_row _ _ _ h]; exact hI2 b k h)) (by omega) (by have h9 := zCt_s (f := zSev) (r := I 6) (k := k) (by omega) hs6 (show v4 = I 6 k.toNat by rw [← hI2 6 _ (by omega)]; assumption); rw [zSev_0 (by omega)] at h9; rw [Int.add_zero] at h9; exact h9) (by omega)
      ·
        have lt9 := zCt_lt (f := zSev) (r := I 6) (w := w) zSev_b (by omega) hs6 (show v4 = I 6 k.toNat by rw [← hI2 6 _ (by omega)]; assumption) (zSev_1 (by omega))
        refine z_aload (pc2 := 74) rfl rfl rfl ?_
        refine z_iload (pc2 := 76) rfl rfl rfl ?_
        refine z_aload_n (pc2 := 77) rfl rfl rfl ?_
        refine z_getP (pc2 := 80) rfl rfl rfl rfl t9 ?_
        intro p6 p6e p6k
        clear p6k; replace p6e : p6 = some 5 := by rw [p6e]; first | exact hrd | exact Eq.symm hrd | (simp [zU]; first | done | exact hrd | exact Eq.symm hrd | omega) | (refine Eq.trans (congrArg _ ?_) (Eq.symm hrd); omega)
        subst p6e
        refine z_getP (pc2 := 83) rfl rfl rfl rfl t5 ?_
        intro p7 p7e p7k
        replace p7k : p7 = some 7 := p7k; clear p7e; subst p7k
        refine z_iload (pc2 := 85) rfl rfl rfl ?_
        refine z_iald (pc2 := 86) rfl rfl t7 (by omega) (by omega) (by omega) ?_
        intro v8 e8 r8 k8
        replace k8 : (0 : Int) ≤ v8 ∧ v8 ≤ 23 := k8
        have tw9 : 0 ≤ (v8) ∧ (v8) ≤ 11 := by have h9 := htk k.toNat (by omega); unfold zTw at h9; have e6 := hI2 6 k.toNat (by omega); have e7 := hI2 7 k.toNat (by omega); omega
        refine z_iast (pc2 := 87) rfl rfl ta (by omega) (by omega) (by omega) (by omega) (by show (0 : Int) ≤ _ ∧ _ ≤ 11; omega) ?_
        refine z_iinc (lv2 := [(5, _), (0, _), (1, _), (2, _), (4, _), (6, _)]) (pc2 := 90) rfl rfl rfl rfl rfl ?_
        refine z_iinc (lv2 := [(6, _), (5, _), (0, _), (1, _), (2, _), (4, _)]) (pc2 := 93) rfl rfl rfl rfl rfl ?_
        refine z_goto (pc2 := 51) rfl rfl ?_
        refine z_lv (lv2 := [(0, _), (1, _), (2, _), (4, _), (5, _), (6, _)]) ⟨rfl, rfl, rfl, rfl, rfl, rfl, trivial⟩ ?_
        exact ih _ _ _ _ (by omega) (by omega) (fun b k h => by first | exact hI2 b k h | (rw [zU_row _ _ _ h]; exact hI2 b k h)) (by omega) (by have h9 := zCt_s (f := zSev) (r := I 6) (k := k) (by omega) hs6 (show v4 = I 6 k.toNat by rw [← hI2 6 _ (by omega)]; assumption); rw [zSev_1 (by omega)] at h9; exact h9) (by omega)
set_option maxHeartbeats 8000000 in
theorem cl_Composer_makeCalls1 {L : Nat} {xs : Nat → Int32} {n sl : Nat} {T : Nat → zT} {I : Nat → Nat → Int} {P : Nat → Nat → Option Nat} {G : Nat → Nat → Int} {K : List zV → zH → Prop} {a w c un : Int} (hn : 90 ≤ n) (hC : ∀ a, 1 ≤ a → a ≤ 55 → T a = zFixC a) (ha : 0 ≤ a ∧ a ≤ 40) (hw : 0 ≤ w ∧ w ≤ 40) (hc : 0 ≤ c ∧ c ≤ 40) (hun : 0 ≤ un ∧ un ≤ 24) (hrd : P 9 6 = some 5) (htk : zTkn un c I) (hawc : a ≤ w ∧ w ≤ c) (hK : ∀ u T2 I2 P2 G2, (∀ b, b ≤ n → T2 b = T b ∧ I2 b = I b ∧ P2 b = P b) → T2 (n + 1) = (2, 0, [u, 9]) → zTm T T2 → (0 ≤ u ∧ u ≤ w - a) → K [.inr (.inl (some (n + 1)))] (n + 1, sl + u.toNat, T2, I2, P2, G2)) (m : Nat) : ∀ (s k : Int), 0 ≤ s ∧ s ≤ 40 → 0 ≤ k ∧ k ≤ 40 → a ≤ k ∧ k ≤ w ∧ s ≤ k - a → s = zCt zSev (I 6) a.toNat (k - a).toNat → (40 - k).toNat < m → zB zMd L xs 20 5 [(0, .inr (.inl (some 9))), (1, .inl a), (2, .inl w), (3, .inl s), (4, .inl k)] [] (n, sl, T, I, P, G) K := by
  have t5 : T 5 = (1, 7, [1]) := hC 5 (by decide) (by decide)
  have t6 : T 6 = (2, 0, [40, 20]) := hC 6 (by decide) (by decide)
  have t9 : T 9 = (1, 0, [1]) := hC 9 (by decide) (by decide)
  induction m with
  | zero => intro s k hs hk hb3 hs6 hm; omega
  | succ m ih =>
    intro s k hs hk hb3 hs6 hm
    refine z_iload (pc2 := 7) rfl rfl rfl ?_
    refine z_iload_n (pc2 := 8) rfl rfl rfl ?_
    refine z_icmp_ge (t := 40) (pc2 := 11) rfl rfl rfl (by omega) (by omega) (fun c1 => ?_) (fun c1 => ?_)
    ·
      refine z_iload_n (pc2 := 41) rfl rfl rfl ?_
      refine z_newI (gs := [9]) (pc2 := 43) rfl rfl (by omega) (by omega) (fun k => by show (0 : Int) ≤ 0 ∧ (0 : Int) ≤ 11; omega) (fun T2 I2 P2 G2 w2 => ?_)
      refine z_astore (lv2 := [(4, _), (0, _), (1, _), (2, _), (3, _)]) (pc2 := 45) rfl rfl rfl rfl ?_
      refine z_iconst (pc2 := 46) rfl rfl ?_
      refine z_istore (lv2 := [(5, _), (4, _), (0, _), (1, _), (2, _), (3, _)]) (pc2 := 48) rfl rfl rfl rfl ?_
      refine z_iload_n (pc2 := 49) rfl rfl rfl ?_
      refine z_istore (lv2 := [(6, _), (5, _), (4, _), (0, _), (1, _), (2, _), (3, _)]) (pc2 := 51) rfl rfl rfl rfl ?_
      refine z_lv (lv2 := [(0, _), (1, _), (2, _), (4, _), (5, _), (6, _)]) ⟨rfl, rfl, rfl, rfl, rfl, rfl, trivial⟩ ?_
      exact cl_Composer_makeCalls2 (c := c) (un := un) (u := s) (by omega) (fun a h1 h2 => (((zTn_n zTn_rf w2 (by omega)) : zTn n _ _) a (by omega)).trans (hC a h1 h2)) (by omega) (by omega) (by omega) (by omega) (by omega) (by rw [(w2.1 9 (by omega)).2.2.1]; exact hrd) (fun i hi => by rw [(w2.1 6 (by omega)).2.1, (w2.1 7 (by omega)).2.1, (w2.1 8 (by omega)).2.1]; exact htk i hi) hawc w2.2.1 (by omega) (by omega) (by rw [(w2.1 6 (by omega)).2.1, show w = k by omega]; exact hs6) (fun I9 G9 h9 => hK _ _ _ _ _ (fun b hb => ⟨(w2.1 b (by omega)).1, by funext j; rw [h9 b j (by omega), (w2.1 b (by omega)).2.1], (w2.1 b (by omega)).2.2.1⟩) w2.2.1 (zTk_m w2.2.2.2.2) (by omega)) _ _ _ _ _ (by omega) (by omega) (fun _ _ _ => rfl) (by omega) (by rw [show (a - a).toNat = 0 by omega]; rfl) (Nat.lt_succ_self _)
    ·
      refine z_iload_n (pc2 := 12) rfl rfl rfl ?_
      refine z_aload_n (pc2 := 13) rfl rfl rfl ?_
      refine z_getP (pc2 := 16) rfl rfl rfl rfl t9 ?_
      intro p3 p3e p3k
      clear p3k; replace p3e : p3 = some 5 := by rw [p3e]; first | exact hrd | exact Eq.symm hrd | (simp [zU]; first | done | exact hrd | exact Eq.symm hrd | omega) | (refine Eq.trans (congrArg _ ?_) (Eq.symm hrd); omega)
      subst p3e
      refine z_getP (pc2 := 19) rfl rfl rfl rfl t5 ?_
      intro p4 p4e p4k
      replace p4k : p4 = some 6 := p4k; clear p4e; subst p4k
      refine z_iload (pc2 := 21) rfl rfl rfl ?_
      refine z_iald (pc2 := 22) rfl rfl t6 (by omega) (by omega) (by omega) ?_
      intro v5 e5 r5 k5
      replace k5 : (0 : Int) ≤ v5 ∧ v5 ≤ 7 := k5
      refine z_bipush (pc2 := 24) rfl rfl (by decide) ?_
      refine z_icmp_ne (t := 31) (pc2 := 27) rfl rfl rfl (by omega) (by omega) (fun c6 => ?_) (fun c6 => ?_)
      ·
        refine z_iconst (pc2 := 32) rfl rfl ?_
        refine z_iadd (pc2 := 33) rfl rfl ?_
        refine z_istore_n (lv2 := [(3, _), (0, _), (1, _), (2, _), (4, _)]) (pc2 := 34) rfl rfl rfl rfl ?_
        refine z_iinc (lv2 := [(4, _), (3, _), (0, _), (1, _), (2, _)]) (pc2 := 37) rfl rfl rfl rfl rfl ?_
        refine z_goto (pc2 := 5) rfl rfl ?_
        refine z_lv (lv2 := [(0, _), (1, _), (2, _), (3, _), (4, _)]) ⟨rfl, rfl, rfl, rfl, rfl, trivial⟩ ?_
        exact ih _ _ (by omega) (by omega) (by omega) (by have h9 := zCt_s (f := zSev) (r := I 6) (k := k) (by omega) hs6 (show v5 = I 6 k.toNat by assumption); rw [zSev_0 (by omega)] at h9; exact h9) (by omega)
      ·
        refine z_iconst (pc2 := 28) rfl rfl ?_
        refine z_goto (pc2 := 32) rfl rfl ?_
        refine z_iadd (pc2 := 33) rfl rfl ?_
        refine z_istore_n (lv2 := [(3, _), (0, _), (1, _), (2, _), (4, _)]) (pc2 := 34) rfl rfl rfl rfl ?_
        refine z_iinc (lv2 := [(4, _), (3, _), (0, _), (1, _), (2, _)]) (pc2 := 37) rfl rfl rfl rfl rfl ?_
        refine z_goto (pc2 := 5) rfl rfl ?_
        refine z_lv (lv2 := [(0, _), (1, _), (2, _), (3, _), (4, _)]) ⟨rfl, rfl, rfl, rfl, rfl, trivial⟩ ?_
        exact ih _ _ (by omega) (by omega) (by omega) (by have h9 := zCt_s (f := zSev) (r := I 6) (k := k) (by omega) hs6 (show v5 = I 6 k.toNat by assumption); rw [zSev_1 (by omega)] at h9; exact h9) (by omega)
set_option maxHeartbeats 8000000 in
theorem c_Composer_makeCalls {L : Nat} {xs : Nat → Int32} {n sl : Nat} {T : Nat → zT} {I : Nat → Nat → Int} {P : Nat → Nat → Option Nat} {G : Nat → Nat → Int} {K : List zV → zH → Prop} {a w c un : Int} (hn : 90 ≤ n) (hC : ∀ a, 1 ≤ a → a ≤ 55 → T a = zFixC a) (ha : 0 ≤ a ∧ a ≤ 40) (hw : 0 ≤ w ∧ w ≤ 40) (hc : 0 ≤ c ∧ c ≤ 40) (hun : 0 ≤ un ∧ un ≤ 24) (hrd : P 9 6 = some 5) (htk : zTkn un c I) (hawc : a ≤ w ∧ w ≤ c) (hK : ∀ u T2 I2 P2 G2, (∀ b, b ≤ n → T2 b = T b ∧ I2 b = I b ∧ P2 b = P b) → T2 (n + 1) = (2, 0, [u, 9]) → zTm T T2 → (0 ≤ u ∧ u ≤ w - a) → K [.inr (.inl (some (n + 1)))] (n + 1, sl + u.toNat, T2, I2, P2, G2)) : zX zMd L xs 20 [.inr (.inl (some 9)), .inl a, .inl w] (n, sl, T, I, P, G) K := by
  refine z_inl ?_
  refine z_lv (lv2 := [(0, _), (1, _), (2, _)]) ⟨rfl, rfl, rfl, trivial⟩ ?_
  refine z_iconst (pc2 := 1) rfl rfl ?_
  refine z_istore_n (lv2 := [(3, _), (0, _), (1, _), (2, _)]) (pc2 := 2) rfl rfl rfl rfl ?_
  refine z_iload_n (pc2 := 3) rfl rfl rfl ?_
  refine z_istore (lv2 := [(4, _), (3, _), (0, _), (1, _), (2, _)]) (pc2 := 5) rfl rfl rfl rfl ?_
  refine z_lv (lv2 := [(0, _), (1, _), (2, _), (3, _), (4, _)]) ⟨rfl, rfl, rfl, rfl, rfl, trivial⟩ ?_
  exact cl_Composer_makeCalls1 hn hC (c := c) (un := un) (by omega) (by omega) (by omega) (by omega) hrd htk hawc hK _  _ _ (by omega) (by omega)   (by omega) (by rw [show (a - a).toNat = 0 by omega]; rfl) (Nat.lt_succ_self _)
