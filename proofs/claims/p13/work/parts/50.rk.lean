/-! the reference: are the sorts there -/
set_option maxHeartbeats 8000000 in
theorem l_areThere4 {L : Nat} {xs : Nat → Int32} {n sl : Nat} {T : Nat → zT} {I : Nat → Nat → Int} {P : Nat → Nat → Option Nat} {K : List zV → zH → Prop} (hT : ∀ a, 56 ≤ a → a ≤ 90 → T a = zFix a) (hK : ∀ e I2 G2, (0 ≤ e ∧ e ≤ 1) → zWl I I2 → K [.inl e] (n, sl, T, I2, P, G2)) (m : Nat) : ∀ (I2 : Nat → Nat → Int) (G2 : Nat → Nat → Int), ∀ (z k : Int), 0 ≤ z ∧ z ≤ 1 → 0 ≤ k ∧ k ≤ 144 → zWl I I2 → (144 - k).toNat < m → zB zMd L xs 235 130 [(0, .inr (.inl (some 56))), (1, .inl z), (2, .inl k)] [] (n, sl, T, I2, P, G2) K := by
  have t56 : T 56 = (1, 12, [1]) := hT 56 (by decide) (by decide)
  have t57 : T 57 = (2, 0, [112200, 1]) := hT 57 (by decide) (by decide)
  have t87 : T 87 = (2, 0, [144, 0]) := hT 87 (by decide) (by decide)
  induction m with
  | zero => intro I2 G2 z k hz hk hI2 hm; omega
  | succ m ih =>
    intro I2 G2 z k hz hk hI2 hm
    refine z_iload_n (pc2 := 131) rfl rfl rfl ?_
    refine z_sipush (pc2 := 134) rfl rfl (by decide) ?_
    refine z_icmp_ge (t := 173) (pc2 := 137) rfl rfl rfl (by omega) (by omega) (fun c1 => ?_) (fun c1 => ?_)
    ·
      refine z_iload_n (pc2 := 174) rfl rfl rfl ?_
      refine z_zret rfl rfl (by omega) ?_
      exact hK _ _ _ (by omega) hI2
    ·
      refine z_iload_n (pc2 := 138) rfl rfl rfl ?_
      refine z_if_eq (t := 165) (pc2 := 141) rfl rfl rfl (by omega) (fun c2 => ?_) (fun c2 => ?_)
      ·
        refine z_iconst (pc2 := 166) rfl rfl ?_
        refine z_istore_n (lv2 := [(1, _), (0, _), (2, _)]) (pc2 := 167) rfl rfl rfl rfl ?_
        refine z_iinc (lv2 := [(2, _), (1, _), (0, _)]) (pc2 := 170) rfl rfl rfl rfl rfl ?_
        refine z_goto (pc2 := 130) rfl rfl ?_
        refine z_lv (lv2 := [(0, _), (1, _), (2, _)]) ⟨rfl, rfl, rfl, trivial⟩ ?_
        exact ih _ _ _ _ (by omega) (by omega) hI2 (by omega)
      ·
        refine z_aload_n (pc2 := 142) rfl rfl rfl ?_
        refine z_getP (pc2 := 145) rfl rfl rfl rfl t56 ?_
        intro p3 p3e p3k; replace p3k : p3 = some 87 := p3k; clear p3e; subst p3k
        refine z_iload_n (pc2 := 146) rfl rfl rfl ?_
        refine z_iald (pc2 := 147) rfl rfl t87 (by omega) (by omega) (by decide) ?_
        intro v4 e4 r4 k4
        clear e4
        clear k4
        refine z_aload_n (pc2 := 148) rfl rfl rfl ?_
        refine z_getP (pc2 := 151) rfl rfl rfl rfl t56 ?_
        intro p5 p5e p5k; replace p5k : p5 = some 57 := p5k; clear p5e; subst p5k
        refine z_aload_n (pc2 := 152) rfl rfl rfl ?_
        refine z_callV (y2 := 162) (as := []) (rest := [_, _]) (pc2 := 155) rfl rfl rfl rfl t56 rfl ?_
        refine z_inl ?_
        refine z_lv (lv2 := [(0, _)]) ⟨rfl, trivial⟩ ?_
        refine z_ldc (56100) (pc2 := 2) rfl rfl rfl ?_
        refine z_aload_n (pc2 := 3) rfl rfl rfl ?_
        refine z_getI (pc2 := 6) 0 rfl rfl rfl rfl rfl t56 ?_
        intro v6 e6 r6 k6
        clear e6
        replace k6 : (0 : Int) ≤ v6 ∧ v6 ≤ 1 := k6; clear r6
        refine z_imul (pc2 := 7) rfl rfl ?_
        refine z_iret rfl rfl ?_
        show zB _ _ _ _ _ _ [_, _, _] _ _
        refine z_iload_n (pc2 := 156) rfl rfl rfl ?_
        refine z_iadd (pc2 := 157) rfl rfl ?_
        refine z_iald (pc2 := 158) rfl rfl t57 (by omega) (by omega) (by decide) ?_
        intro v7 e7 r7 k7
        clear e7
        clear k7
        refine z_icmp_gt (t := 165) (pc2 := 161) rfl rfl rfl (by omega) (by omega) (fun c8 => ?_) (fun c8 => ?_)
        ·
          refine z_iconst (pc2 := 166) rfl rfl ?_
          refine z_istore_n (lv2 := [(1, _), (0, _), (2, _)]) (pc2 := 167) rfl rfl rfl rfl ?_
          refine z_iinc (lv2 := [(2, _), (1, _), (0, _)]) (pc2 := 170) rfl rfl rfl rfl rfl ?_
          refine z_goto (pc2 := 130) rfl rfl ?_
          refine z_lv (lv2 := [(0, _), (1, _), (2, _)]) ⟨rfl, rfl, rfl, trivial⟩ ?_
          exact ih _ _ _ _ (by omega) (by omega) hI2 (by omega)
        ·
          refine z_iconst (pc2 := 162) rfl rfl ?_
          refine z_goto (pc2 := 166) rfl rfl ?_
          refine z_istore_n (lv2 := [(1, _), (0, _), (2, _)]) (pc2 := 167) rfl rfl rfl rfl ?_
          refine z_iinc (lv2 := [(2, _), (1, _), (0, _)]) (pc2 := 170) rfl rfl rfl rfl rfl ?_
          refine z_goto (pc2 := 130) rfl rfl ?_
          refine z_lv (lv2 := [(0, _), (1, _), (2, _)]) ⟨rfl, rfl, rfl, trivial⟩ ?_
          exact ih _ _ _ _ (by omega) (by omega) hI2 (by omega)
set_option maxHeartbeats 8000000 in
theorem l_areThere3 {L : Nat} {xs : Nat → Int32} {n sl : Nat} {T : Nat → zT} {I : Nat → Nat → Int} {P : Nat → Nat → Option Nat} {K : List zV → zH → Prop} {N a : Int} (hT : ∀ a, 56 ≤ a → a ≤ 90 → T a = zFix a) (hN : 1 ≤ N ∧ N ≤ 40) (ha : 0 ≤ a ∧ a ≤ 39) (hgo : zGo N I) (haN : a < N) (hE : ∀ (I2 G2 : Nat → Nat → Int) (c : Int), zWl I I2 → a < c → c ≤ N → zB zMd L xs 235 24 [(0, .inr (.inl (some 56))), (1, .inl c)] [] (n, sl, T, I2, P, G2) K) (hK : True) (m : Nat) : ∀ (I2 : Nat → Nat → Int) (G2 : Nat → Nat → Int), ∀ (k : Int), 0 ≤ k ∧ k ≤ 42 → zWl I I2 → (42 - k).toNat < m → zB zMd L xs 235 55 [(0, .inr (.inl (some 56))), (1, .inl a), (2, .inl k)] [] (n, sl, T, I2, P, G2) K := by
  have t56 : T 56 = (1, 12, [1]) := hT 56 (by decide) (by decide)
  have t82 : T 82 = (2, 0, [42, 8]) := hT 82 (by decide) (by decide)
  have t85 : T 85 = (2, 0, [42, 11]) := hT 85 (by decide) (by decide)
  have t87 : T 87 = (2, 0, [144, 0]) := hT 87 (by decide) (by decide)
  induction m with
  | zero => intro I2 G2 k hk hI2 hm; omega
  | succ m ih =>
    intro I2 G2 k hk hI2 hm
    refine z_iload_n (pc2 := 56) rfl rfl rfl ?_
    refine z_aload_n (pc2 := 57) rfl rfl rfl ?_
    refine z_getI (pc2 := 60) 0 rfl rfl rfl rfl rfl t56 ?_
    intro v1 e1 r1 k1
    clear e1
    replace k1 : (0 : Int) ≤ v1 ∧ v1 ≤ 42 := k1; clear r1
    refine z_icmp_ge (t := 116) (pc2 := 63) rfl rfl rfl (by omega) (by omega) (fun c2 => ?_) (fun c2 => ?_)
    ·
      refine z_aload_n (pc2 := 117) rfl rfl rfl ?_
      refine z_getP (pc2 := 120) rfl rfl rfl rfl t56 ?_
      intro p3 p3e p3k; replace p3k : p3 = some 85 := p3k; clear p3e; subst p3k
      refine z_iload_n (pc2 := 121) rfl rfl rfl ?_
      refine z_iald (pc2 := 122) rfl rfl t85 (by omega) (by omega) (by decide) ?_
      intro v4 e4 r4 k4
      replace k4 : (-4 : Int) ≤ v4 ∧ v4 ≤ 41 := k4; clear r4
      have nx := zGo_nx (zGo_wl hgo hI2) (by assumption) (by omega) (by omega)
      refine z_istore_n (lv2 := [(1, _), (0, _), (2, _)]) (pc2 := 123) rfl rfl rfl rfl ?_
      refine z_goto (pc2 := 24) rfl rfl ?_
      refine z_lv (lv2 := [(0, _), (1, _)]) ⟨rfl, rfl, trivial⟩ ?_
      exact hE _ _ _ hI2 (by omega) (by omega)
    ·
      refine z_aload_n (pc2 := 64) rfl rfl rfl ?_
      refine z_getP (pc2 := 67) rfl rfl rfl rfl t56 ?_
      intro p5 p5e p5k; replace p5k : p5 = some 82 := p5k; clear p5e; subst p5k
      refine z_iload_n (pc2 := 68) rfl rfl rfl ?_
      refine z_iald (pc2 := 69) rfl rfl t82 (by omega) (by omega) (by decide) ?_
      intro v6 e6 r6 k6
      clear e6
      replace k6 : zGd v6 := k6
      have k6' := k6
      unfold zGd at k6'
      refine z_istore_n (lv2 := [(3, _), (0, _), (1, _), (2, _)]) (pc2 := 70) rfl rfl rfl rfl ?_
      refine z_iload_n (pc2 := 71) rfl rfl rfl ?_
      refine z_callS (y2 := 172) (as := [_]) (rest := []) (pc2 := 74) rfl rfl rfl rfl ?_
      refine z_inl ?_
      refine z_lv (lv2 := [(0, _)]) ⟨rfl, trivial⟩ ?_
      refine z_iload_n (pc2 := 1) rfl rfl rfl ?_
      refine z_bipush (pc2 := 3) rfl rfl (by decide) ?_
      refine z_and_7 (pc2 := 4) rfl rfl ?_
      refine z_iconst (pc2 := 5) rfl rfl ?_
      refine z_isub (pc2 := 6) rfl rfl ?_
      refine z_iret rfl rfl ?_
      show zB _ _ _ _ _ _ [_] _ _
      refine z_iconst (pc2 := 75) rfl rfl ?_
      refine z_icmp_ne (t := 97) (pc2 := 78) rfl rfl rfl (by omega) (by omega) (fun c8 => ?_) (fun c8 => ?_)
      ·
        refine z_aload_n (pc2 := 98) rfl rfl rfl ?_
        refine z_getP (pc2 := 101) rfl rfl rfl rfl t56 ?_
        intro p9 p9e p9k; replace p9k : p9 = some 87 := p9k; clear p9e; subst p9k
        refine z_iload_n (pc2 := 102) rfl rfl rfl ?_
        refine z_callS (y2 := 184) (as := [_]) (rest := [_]) (pc2 := 105) rfl rfl rfl rfl ?_
        refine m_boxOfSort (by omega) (by assumption) (by omega) (fun w10 w10r => ?_)
        show zB _ _ _ _ _ _ [_, _] _ _
        refine z_dup2 (pc2 := 106) rfl rfl rfl rfl ?_
        refine z_iald (pc2 := 107) rfl rfl t87 (by omega) (by omega) (by decide) ?_
        intro v11 e11 r11 k11
        clear e11
        clear k11
        refine z_iconst (pc2 := 108) rfl rfl ?_
        refine z_iadd (pc2 := 109) rfl rfl ?_
        refine z_iast_any (pc2 := 110) rfl rfl t87 (by omega) (by omega) (by decide) (fun _ _ => True.intro) (fun u12 u12r => ?_); clear u12r
        refine z_iinc (lv2 := [(2, _), (3, _), (0, _), (1, _)]) (pc2 := 113) rfl rfl rfl rfl rfl ?_
        refine z_goto (pc2 := 55) rfl rfl ?_
        refine z_lv (lv2 := [(0, _), (1, _), (2, _)]) ⟨rfl, rfl, rfl, trivial⟩ ?_
        exact ih _ _ _ (by omega) (by repeat (first | exact zWl_rf _ | assumption | refine zWl_w ?_)) (by omega)
      ·
        refine z_aload_n (pc2 := 79) rfl rfl rfl ?_
        refine z_iload_n (pc2 := 80) rfl rfl rfl ?_
        refine z_callS (y2 := 173) (as := [_]) (rest := [_]) (pc2 := 83) rfl rfl rfl rfl ?_
        refine z_inl ?_
        refine z_lv (lv2 := [(0, _)]) ⟨rfl, trivial⟩ ?_
        refine z_iload_n (pc2 := 1) rfl rfl rfl ?_
        refine z_iconst (pc2 := 2) rfl rfl ?_
        refine z_shr_3 (pc2 := 3) rfl rfl (by omega) ?_
        refine z_sipush (pc2 := 6) rfl rfl (by decide) ?_
        refine z_and_255 (pc2 := 7) rfl rfl ?_
        refine z_iret rfl rfl ?_
        show zB _ _ _ _ _ _ [_, _] _ _
        refine z_callV (y2 := 234) (as := [_]) (rest := []) (pc2 := 86) rfl rfl rfl rfl t56 rfl ?_
        refine z_inl ?_
        refine z_lv (lv2 := [(0, _), (1, _)]) ⟨rfl, rfl, trivial⟩ ?_
        refine z_aload_n (pc2 := 1) rfl rfl rfl ?_
        refine z_getP (pc2 := 4) rfl rfl rfl rfl t56 ?_
        intro p15 p15e p15k; replace p15k : p15 = some 87 := p15k; clear p15e; subst p15k
        refine z_iload_n (pc2 := 5) rfl rfl rfl ?_
        refine z_callS (y2 := 183) (as := [_]) (rest := [_]) (pc2 := 8) rfl rfl rfl rfl ?_
        refine m_boxOfPart (by omega) (by first | assumption | (refine ⟨?_, ?_⟩ <;> omega)) (fun w16 w16r => ?_)
        show zB _ _ _ _ _ _ [_, _] _ _
        refine z_dup2 (pc2 := 9) rfl rfl rfl rfl ?_
        refine z_iald (pc2 := 10) rfl rfl t87 (by omega) (by omega) (by decide) ?_
        intro v17 e17 r17 k17
        clear e17
        clear k17
        refine z_iconst (pc2 := 11) rfl rfl ?_
        refine z_iadd (pc2 := 12) rfl rfl ?_
        refine z_iast_any (pc2 := 13) rfl rfl t87 (by omega) (by omega) (by decide) (fun _ _ => True.intro) (fun u18 u18r => ?_); clear u18r
        refine z_ret rfl rfl ?_
        show zB _ _ _ _ _ _ [] _ _
        refine z_aload_n (pc2 := 87) rfl rfl rfl ?_
        refine z_iload_n (pc2 := 88) rfl rfl rfl ?_
        refine z_callS (y2 := 174) (as := [_]) (rest := [_]) (pc2 := 91) rfl rfl rfl rfl ?_
        refine z_inl ?_
        refine z_lv (lv2 := [(0, _)]) ⟨rfl, trivial⟩ ?_
        refine z_iload_n (pc2 := 1) rfl rfl rfl ?_
        refine z_bipush (pc2 := 3) rfl rfl (by decide) ?_
        refine z_shr_11 (pc2 := 4) rfl rfl (by omega) ?_
        refine z_sipush (pc2 := 7) rfl rfl (by decide) ?_
        refine z_and_255 (pc2 := 8) rfl rfl ?_
        refine z_iret rfl rfl ?_
        show zB _ _ _ _ _ _ [_, _] _ _
        refine z_callV (y2 := 234) (as := [_]) (rest := []) (pc2 := 94) rfl rfl rfl rfl t56 rfl ?_
        refine z_inl ?_
        refine z_lv (lv2 := [(0, _), (1, _)]) ⟨rfl, rfl, trivial⟩ ?_
        refine z_aload_n (pc2 := 1) rfl rfl rfl ?_
        refine z_getP (pc2 := 4) rfl rfl rfl rfl t56 ?_
        intro p21 p21e p21k; replace p21k : p21 = some 87 := p21k; clear p21e; subst p21k
        refine z_iload_n (pc2 := 5) rfl rfl rfl ?_
        refine z_callS (y2 := 183) (as := [_]) (rest := [_]) (pc2 := 8) rfl rfl rfl rfl ?_
        refine m_boxOfPart (by omega) (by first | assumption | (refine ⟨?_, ?_⟩ <;> omega)) (fun w22 w22r => ?_)
        show zB _ _ _ _ _ _ [_, _] _ _
        refine z_dup2 (pc2 := 9) rfl rfl rfl rfl ?_
        refine z_iald (pc2 := 10) rfl rfl t87 (by omega) (by omega) (by decide) ?_
        intro v23 e23 r23 k23
        clear e23
        clear k23
        refine z_iconst (pc2 := 11) rfl rfl ?_
        refine z_iadd (pc2 := 12) rfl rfl ?_
        refine z_iast_any (pc2 := 13) rfl rfl t87 (by omega) (by omega) (by decide) (fun _ _ => True.intro) (fun u24 u24r => ?_); clear u24r
        refine z_ret rfl rfl ?_
        show zB _ _ _ _ _ _ [] _ _
        refine z_goto (pc2 := 110) rfl rfl ?_
        refine z_iinc (lv2 := [(2, _), (3, _), (0, _), (1, _)]) (pc2 := 113) rfl rfl rfl rfl rfl ?_
        refine z_goto (pc2 := 55) rfl rfl ?_
        refine z_lv (lv2 := [(0, _), (1, _), (2, _)]) ⟨rfl, rfl, rfl, trivial⟩ ?_
        exact ih _ _ _ (by omega) (by repeat (first | exact zWl_rf _ | assumption | refine zWl_w ?_)) (by omega)
set_option maxHeartbeats 8000000 in
theorem l_areThere2 {L : Nat} {xs : Nat → Int32} {n sl : Nat} {T : Nat → zT} {I : Nat → Nat → Int} {P : Nat → Nat → Option Nat} {K : List zV → zH → Prop} {N : Int} (hT : ∀ a, 56 ≤ a → a ≤ 90 → T a = zFix a) (hN : 1 ≤ N ∧ N ≤ 40) (hgo : zGo N I) (hrl : zRl I) (hK : ∀ e I2 G2, (0 ≤ e ∧ e ≤ 1) → zWl I I2 → K [.inl e] (n, sl, T, I2, P, G2)) (m : Nat) : ∀ (I2 : Nat → Nat → Int) (G2 : Nat → Nat → Int), ∀ (a : Int), 0 ≤ a ∧ a ≤ 40 → zWl I I2 → a ≤ N → (N - a).toNat < m → zB zMd L xs 235 24 [(0, .inr (.inl (some 56))), (1, .inl a)] [] (n, sl, T, I2, P, G2) K := by
  have t56 : T 56 = (1, 12, [1]) := hT 56 (by decide) (by decide)
  have t84 : T 84 = (2, 0, [42, 10]) := hT 84 (by decide) (by decide)
  have t85 : T 85 = (2, 0, [42, 11]) := hT 85 (by decide) (by decide)
  induction m with
  | zero => intro I2 G2 a ha hI2 hb3 hm; omega
  | succ m ih =>
    intro I2 G2 a ha hI2 hb3 hm
    refine z_iload_n (pc2 := 25) rfl rfl rfl ?_
    refine z_aload_n (pc2 := 26) rfl rfl rfl ?_
    refine z_getI (pc2 := 29) 0 rfl rfl rfl rfl rfl t56 ?_
    intro v1 e1 r1 k1
    replace k1 : (0 : Int) ≤ v1 ∧ v1 ≤ 41 := k1; clear r1
    replace e1 : N = v1 := by rw [e1]; first | exact (zGo_wl hgo hI2).1 | exact Eq.symm (zGo_wl hgo hI2).1 | (simp [zU]; first | done | exact (zGo_wl hgo hI2).1 | exact Eq.symm (zGo_wl hgo hI2).1 | omega)
    subst e1
    refine z_icmp_ge (t := 126) (pc2 := 32) rfl rfl rfl (by omega) (by omega) (fun c2 => ?_) (fun c2 => ?_)
    ·
      refine z_iconst (pc2 := 127) rfl rfl ?_
      refine z_istore_n (lv2 := [(1, _), (0, _)]) (pc2 := 128) rfl rfl rfl rfl ?_
      refine z_iconst (pc2 := 129) rfl rfl ?_
      refine z_istore_n (lv2 := [(2, _), (1, _), (0, _)]) (pc2 := 130) rfl rfl rfl rfl ?_
      refine z_lv (lv2 := [(0, _), (1, _), (2, _)]) ⟨rfl, rfl, rfl, trivial⟩ ?_
      exact l_areThere4 hT  hK _ _ _ _ _ (by omega) (by omega) hI2  (Nat.lt_succ_self _)
    ·
      refine z_aload_n (pc2 := 33) rfl rfl rfl ?_
      refine z_aload_n (pc2 := 34) rfl rfl rfl ?_
      refine z_getP (pc2 := 37) rfl rfl rfl rfl t56 ?_
      intro p3 p3e p3k; replace p3k : p3 = some 84 := p3k; clear p3e; subst p3k
      refine z_iload_n (pc2 := 38) rfl rfl rfl ?_
      refine z_iald (pc2 := 39) rfl rfl t84 (by omega) (by omega) (by decide) ?_
      intro v4 e4 r4 k4
      clear e4
      replace k4 : (0 : Int) ≤ v4 ∧ v4 ≤ 40 := k4; clear r4
      refine z_aload_n (pc2 := 40) rfl rfl rfl ?_
      refine z_getP (pc2 := 43) rfl rfl rfl rfl t56 ?_
      intro p5 p5e p5k; replace p5k : p5 = some 84 := p5k; clear p5e; subst p5k
      refine z_aload_n (pc2 := 44) rfl rfl rfl ?_
      refine z_getP (pc2 := 47) rfl rfl rfl rfl t56 ?_
      intro p6 p6e p6k; replace p6k : p6 = some 85 := p6k; clear p6e; subst p6k
      refine z_iload_n (pc2 := 48) rfl rfl rfl ?_
      refine z_iald (pc2 := 49) rfl rfl t85 (by omega) (by omega) (by decide) ?_
      intro v7 e7 r7 k7
      replace k7 : (-4 : Int) ≤ v7 ∧ v7 ≤ 41 := k7; clear r7
      have nx := zGo_nx (zGo_wl hgo hI2) (by assumption) (by omega) (by omega)
      refine z_iald (pc2 := 50) rfl rfl t84 (by omega) (by omega) (by decide) ?_
      intro v8 e8 r8 k8
      clear e8
      replace k8 : (0 : Int) ≤ v8 ∧ v8 ≤ 40 := k8; clear r8
      refine z_callV (y2 := 230) (as := [_, _]) (rest := []) (pc2 := 53) rfl rfl rfl rfl t56 rfl ?_
      refine m_lineOf hT (by omega) (by omega) ((zFr_wl hI2).2 hrl).1 (fun Iw9 Gw9 Lw9 Sw9 Hw9 lw9 nw9 aw9 bw9 cw9 dw9 fw9 qw9 => ?_)
      replace lw9 := zWl_tr hI2 (zWl_l lw9)
      clear nw9 aw9 bw9 cw9 dw9 fw9 qw9
      show zB _ _ _ _ _ _ [] _ _
      refine z_iconst (pc2 := 54) rfl rfl ?_
      refine z_istore_n (lv2 := [(2, _), (0, _), (1, _)]) (pc2 := 55) rfl rfl rfl rfl ?_
      refine z_lv (lv2 := [(0, _), (1, _), (2, _)]) ⟨rfl, rfl, rfl, trivial⟩ ?_
      exact l_areThere3 hT (by omega) (by omega) hgo (by omega) (fun I3 G3 c h3 h4 h5 => ih I3 G3 c (by omega) h3 (by omega) (by omega)) trivial _ _ _ _ (by omega) (by assumption) (Nat.lt_succ_self _)
set_option maxHeartbeats 8000000 in
theorem l_areThere {L : Nat} {xs : Nat → Int32} {n sl : Nat} {T : Nat → zT} {I : Nat → Nat → Int} {P : Nat → Nat → Option Nat} {K : List zV → zH → Prop} {N : Int} (hT : ∀ a, 56 ≤ a → a ≤ 90 → T a = zFix a) (hN : 1 ≤ N ∧ N ≤ 40) (hgo : zGo N I) (hrl : zRl I) (hK : ∀ e I2 G2, (0 ≤ e ∧ e ≤ 1) → zWl I I2 → K [.inl e] (n, sl, T, I2, P, G2)) (m : Nat) : ∀ (I2 : Nat → Nat → Int) (G2 : Nat → Nat → Int), ∀ (k : Int), 0 ≤ k ∧ k ≤ 144 → zWl I I2 → (144 - k).toNat < m → zB zMd L xs 235 2 [(0, .inr (.inl (some 56))), (1, .inl k)] [] (n, sl, T, I2, P, G2) K := by
  have t56 : T 56 = (1, 12, [1]) := hT 56 (by decide) (by decide)
  have t87 : T 87 = (2, 0, [144, 0]) := hT 87 (by decide) (by decide)
  induction m with
  | zero => intro I2 G2 k hk hI2 hm; omega
  | succ m ih =>
    intro I2 G2 k hk hI2 hm
    refine z_iload_n (pc2 := 3) rfl rfl rfl ?_
    refine z_sipush (pc2 := 6) rfl rfl (by decide) ?_
    refine z_icmp_ge (t := 22) (pc2 := 9) rfl rfl rfl (by omega) (by omega) (fun c1 => ?_) (fun c1 => ?_)
    ·
      refine z_iconst (pc2 := 23) rfl rfl ?_
      refine z_istore_n (lv2 := [(1, _), (0, _)]) (pc2 := 24) rfl rfl rfl rfl ?_
      refine z_lv (lv2 := [(0, _), (1, _)]) ⟨rfl, rfl, trivial⟩ ?_
      exact l_areThere2 hT (by omega) hgo hrl hK _ _ _ _ (by omega) hI2 (by omega) (Nat.lt_succ_self _)
    ·
      refine z_aload_n (pc2 := 10) rfl rfl rfl ?_
      refine z_getP (pc2 := 13) rfl rfl rfl rfl t56 ?_
      intro p2 p2e p2k; replace p2k : p2 = some 87 := p2k; clear p2e; subst p2k
      refine z_iload_n (pc2 := 14) rfl rfl rfl ?_
      refine z_iconst (pc2 := 15) rfl rfl ?_
      refine z_iast (pc2 := 16) rfl rfl t87 (by omega) (by omega) (by decide) (by omega) True.intro ?_
      refine z_iinc (lv2 := [(1, _), (0, _)]) (pc2 := 19) rfl rfl rfl rfl rfl ?_
      refine z_goto (pc2 := 2) rfl rfl ?_
      refine z_lv (lv2 := [(0, _), (1, _)]) ⟨rfl, rfl, trivial⟩ ?_
      exact ih _ _ _ (by omega) (by repeat (first | exact zWl_rf _ | assumption | refine zWl_w ?_)) (by omega)
set_option maxHeartbeats 8000000 in
theorem m_areThere {L : Nat} {xs : Nat → Int32} {n sl : Nat} {T : Nat → zT} {I : Nat → Nat → Int} {P : Nat → Nat → Option Nat} {G : Nat → Nat → Int} {K : List zV → zH → Prop} {N : Int} (hT : ∀ a, 56 ≤ a → a ≤ 90 → T a = zFix a) (hN : 1 ≤ N ∧ N ≤ 40) (hgo : zGo N I) (hrl : zRl I) (hK : ∀ e I2 G2, (0 ≤ e ∧ e ≤ 1) → zWl I I2 → K [.inl e] (n, sl, T, I2, P, G2)) : zX zMd L xs 235 [.inr (.inl (some 56))] (n, sl, T, I, P, G) K := by
  refine z_inl ?_
  refine z_lv (lv2 := [(0, _)]) ⟨rfl, trivial⟩ ?_
  refine z_iconst (pc2 := 1) rfl rfl ?_
  refine z_istore_n (lv2 := [(1, _), (0, _)]) (pc2 := 2) rfl rfl rfl rfl ?_
  refine z_lv (lv2 := [(0, _), (1, _)]) ⟨rfl, rfl, trivial⟩ ?_
  exact l_areThere hT (by omega) hgo hrl hK _ _ _ _ (by omega) (zWl_rf _)  (Nat.lt_succ_self _)
