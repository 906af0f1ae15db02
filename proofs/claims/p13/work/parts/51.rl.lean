/-! the reference: justifying -/
set_option maxHeartbeats 8000000 in
theorem m_withAdded2 {L : Nat} {xs : Nat → Int32} {n sl : Nat} {T : Nat → zT} {I : Nat → Nat → Int} {P : Nat → Nat → Option Nat} {G : Nat → Nat → Int} {K : List zV → zH → Prop} {s v : Int}  (hs : zR s) (hK : ∀ e, e % 524288 = s % 524288 → K [.inl e] (n, sl, T, I, P, G)) : zX zMd L xs 176 [.inl s, .inl v] (n, sl, T, I, P, G) K := by
  refine z_inl ?_
  refine z_lv (lv2 := [(0, _), (1, _)]) ⟨rfl, rfl, trivial⟩ ?_
  refine z_iload_n (pc2 := 1) rfl rfl rfl ?_
  refine z_ldc (524287) (pc2 := 3) rfl rfl rfl ?_
  refine z_and_524287 (pc2 := 4) rfl rfl ?_
  refine z_iload_n (pc2 := 5) rfl rfl rfl ?_
  refine z_sipush (pc2 := 8) rfl rfl (by decide) ?_
  refine z_iadd (pc2 := 9) rfl rfl ?_
  refine z_bipush (pc2 := 11) rfl rfl (by decide) ?_
  refine z_shl_19 (pc2 := 12) rfl rfl ?_
  refine z_or_19 (pc2 := 13) rfl rfl (by omega) ?_
  refine z_iret rfl rfl ?_
  exact hK _ (by omega)
set_option maxHeartbeats 8000000 in
theorem l_justified1 {L : Nat} {xs : Nat → Int32} {n sl : Nat} {T : Nat → zT} {I : Nat → Nat → Int} {P : Nat → Nat → Option Nat} {K : List zV → zH → Prop} {i L2 : Int} (hT : ∀ a, 56 ≤ a → a ≤ 90 → T a = zFix a) (hi : 0 ≤ i ∧ i ≤ 7) (hL2 : 0 ≤ L2 ∧ L2 ≤ 40) (hL3 : I 56 31 = L2) (hK : ∀ e I2 G2, (0 ≤ e ∧ e ≤ 3) → zJu I I2 → K [.inl e] (n, sl, T, I2, P, G2)) (m : Nat) : ∀ (I2 : Nat → Nat → Int) (G2 : Nat → Nat → Int), ∀ (k : Int), 0 ≤ k ∧ k ≤ 40 → zJu I I2 → k ≤ L2 → (40 - k).toNat < m → zB zMd L xs 237 19 [(0, .inr (.inl (some 56))), (4, .inl i), (5, .inl k)] [] (n, sl, T, I2, P, G2) K := by
  have t56 : T 56 = (1, 12, [1]) := hT 56 (by decide) (by decide)
  have t73 : T 73 = (2, 0, [8, 0]) := hT 73 (by decide) (by decide)
  have t82 : T 82 = (2, 0, [42, 8]) := hT 82 (by decide) (by decide)
  induction m with
  | zero => intro I2 G2 k hk hI2 hb3 hm; omega
  | succ m ih =>
    intro I2 G2 k hk hI2 hb3 hm
    refine z_iload (pc2 := 21) rfl rfl rfl ?_
    refine z_aload_n (pc2 := 22) rfl rfl rfl ?_
    refine z_getI (pc2 := 25) 0 rfl rfl rfl rfl rfl t56 ?_
    intro v1 e1 r1 k1
    replace k1 : (0 : Int) ≤ v1 ∧ v1 ≤ 42 := k1; clear r1
    replace e1 : L2 = v1 := by rw [e1]; first | exact (zJu_k hI2 (by decide) hL3) | exact Eq.symm (zJu_k hI2 (by decide) hL3) | (simp [zU]; first | done | exact (zJu_k hI2 (by decide) hL3) | exact Eq.symm (zJu_k hI2 (by decide) hL3) | omega)
    subst e1
    refine z_icmp_ge (t := 62) (pc2 := 28) rfl rfl rfl (by omega) (by omega) (fun c2 => ?_) (fun c2 => ?_)
    ·
      refine z_iconst (pc2 := 63) rfl rfl ?_
      refine z_iret rfl rfl ?_
      exact hK _ _ _ (by omega) (by repeat (first | exact zJu_rf _ | assumption | refine zJu_a ?_ | refine zJu_f ?_ (by decide)))
    ·
      refine z_aload_n (pc2 := 29) rfl rfl rfl ?_
      refine z_getP (pc2 := 32) rfl rfl rfl rfl t56 ?_
      intro p3 p3e p3k; replace p3k : p3 = some 82 := p3k; clear p3e; subst p3k
      refine z_iload (pc2 := 34) rfl rfl rfl ?_
      refine z_iald (pc2 := 35) rfl rfl t82 (by omega) (by omega) (by decide) ?_
      intro v4 e4 r4 k4
      clear e4
      replace k4 : zGd v4 := k4
      refine z_callS (y2 := 172) (as := [_]) (rest := []) (pc2 := 38) rfl rfl rfl rfl ?_
      refine z_inl ?_
      refine z_lv (lv2 := [(0, _)]) ⟨rfl, trivial⟩ ?_
      refine z_iload_n (pc2 := 1) rfl rfl rfl ?_
      refine z_bipush (pc2 := 3) rfl rfl (by decide) ?_
      refine z_and_7 (pc2 := 4) rfl rfl ?_
      refine z_iconst (pc2 := 5) rfl rfl ?_
      refine z_isub (pc2 := 6) rfl rfl ?_
      refine z_iret rfl rfl ?_
      show zB _ _ _ _ _ _ [_] _ _
      refine z_iconst (pc2 := 39) rfl rfl ?_
      refine z_icmp_ne (t := 56) (pc2 := 42) rfl rfl rfl (by omega) (by omega) (fun c6 => ?_) (fun c6 => ?_)
      ·
        refine z_iinc (lv2 := [(5, _), (0, _), (4, _)]) (pc2 := 59) rfl rfl rfl rfl rfl ?_
        refine z_goto (pc2 := 19) rfl rfl ?_
        refine z_lv (lv2 := [(0, _), (4, _), (5, _)]) ⟨rfl, rfl, rfl, trivial⟩ ?_
        exact ih _ _ _ (by omega) (by repeat (first | exact zJu_rf _ | assumption | refine zJu_a ?_ | refine zJu_f ?_ (by decide))) (by omega) (by omega)
      ·
        refine z_aload_n (pc2 := 43) rfl rfl rfl ?_
        refine z_iload (pc2 := 45) rfl rfl rfl ?_
        refine z_aload_n (pc2 := 46) rfl rfl rfl ?_
        refine z_getP (pc2 := 49) rfl rfl rfl rfl t56 ?_
        intro p7 p7e p7k; replace p7k : p7 = some 73 := p7k; clear p7e; subst p7k
        refine z_iload (pc2 := 51) rfl rfl rfl ?_
        refine z_iald (pc2 := 52) rfl rfl t73 (by omega) (by omega) (by decide) ?_
        intro v8 e8 r8 k8
        clear e8
        clear k8
        refine z_ineg (pc2 := 53) rfl rfl ?_
        refine z_callV (y2 := 236) (as := [_, _]) (rest := []) (pc2 := 56) rfl rfl rfl rfl t56 rfl ?_
        refine z_inl ?_
        refine z_lv (lv2 := [(0, _), (1, _), (2, _)]) ⟨rfl, rfl, rfl, trivial⟩ ?_
        refine z_aload_n (pc2 := 1) rfl rfl rfl ?_
        refine z_getP (pc2 := 4) rfl rfl rfl rfl t56 ?_
        intro p9 p9e p9k; replace p9k : p9 = some 82 := p9k; clear p9e; subst p9k
        refine z_iload_n (pc2 := 5) rfl rfl rfl ?_
        refine z_aload_n (pc2 := 6) rfl rfl rfl ?_
        refine z_getP (pc2 := 9) rfl rfl rfl rfl t56 ?_
        intro p10 p10e p10k; replace p10k : p10 = some 82 := p10k; clear p10e; subst p10k
        refine z_iload_n (pc2 := 10) rfl rfl rfl ?_
        refine z_iald (pc2 := 11) rfl rfl t82 (by omega) (by omega) (by decide) ?_
        intro v11 e11 r11 k11
        clear e11
        replace k11 : zGd v11 := k11
        refine z_iload_n (pc2 := 12) rfl rfl rfl ?_
        refine z_callS (y2 := 176) (as := [_, _]) (rest := [_, _]) (pc2 := 15) rfl rfl rfl rfl ?_
        refine m_withAdded2 (by omega) (fun w12 w12m => ?_)
        show zB _ _ _ _ _ _ [_, _, _] _ _
        refine z_iast_w (pc2 := 16) rfl rfl t82 (by omega) (by omega) (by decide) (fun u hu1 hu2 => by show zGd _; exact zGd_mod (s := v11) (by assumption) (by omega)) (fun u13 u13r => ?_); clear u13r
        refine z_aload_n (pc2 := 17) rfl rfl rfl ?_
        refine z_dup (pc2 := 18) rfl rfl rfl ?_
        refine z_getI (pc2 := 21) 0 rfl rfl rfl rfl rfl t56 ?_
        intro v14 e14 r14 k14
        clear e14
        clear k14
        refine z_iload_n (pc2 := 22) rfl rfl rfl ?_
        refine z_iadd (pc2 := 23) rfl rfl ?_
        refine z_putI_any (pc2 := 26) rfl rfl rfl rfl rfl rfl t56 (fun _ _ => True.intro) (fun u15 u15r => ?_); clear u15r
        refine z_ret rfl rfl ?_
        show zB _ _ _ _ _ _ [] _ _
        refine z_iinc (lv2 := [(5, _), (0, _), (4, _)]) (pc2 := 59) rfl rfl rfl rfl rfl ?_
        refine z_goto (pc2 := 19) rfl rfl ?_
        refine z_lv (lv2 := [(0, _), (4, _), (5, _)]) ⟨rfl, rfl, rfl, trivial⟩ ?_
        exact ih _ _ _ (by omega) (by repeat (first | exact zJu_rf _ | assumption | refine zJu_a ?_ | refine zJu_f ?_ (by decide))) (by omega) (by omega)
set_option maxHeartbeats 8000000 in
theorem l_justified2 {L : Nat} {xs : Nat → Int32} {n sl : Nat} {T : Nat → zT} {I : Nat → Nat → Int} {P : Nat → Nat → Option Nat} {K : List zV → zH → Prop} {u L2 S : Int} (hT : ∀ a, 56 ≤ a → a ≤ 90 → T a = zFix a) (hu : zR u) (hL2 : 0 ≤ L2 ∧ L2 ≤ 40) (hS : 1 ≤ S ∧ S ≤ 40) (hL3 : I 56 31 = L2) (hS3 : I 56 36 = S) (hK : ∀ e I2 G2, (0 ≤ e ∧ e ≤ 3) → zJu I I2 → K [.inl e] (n, sl, T, I2, P, G2)) (m : Nat) : ∀ (I2 : Nat → Nat → Int) (G2 : Nat → Nat → Int), ∀ (d k : Int), 0 ≤ k ∧ k ≤ 40 → zJu I I2 → k ≤ L2 → (40 - k).toNat < m → zB zMd L xs 237 93 [(0, .inr (.inl (some 56))), (2, .inl u), (5, .inl d), (6, .inl k)] [] (n, sl, T, I2, P, G2) K := by
  have t56 : T 56 = (1, 12, [1]) := hT 56 (by decide) (by decide)
  have t82 : T 82 = (2, 0, [42, 8]) := hT 82 (by decide) (by decide)
  induction m with
  | zero => intro I2 G2 d k hk hI2 hb3 hm; omega
  | succ m ih =>
    intro I2 G2 d k hk hI2 hb3 hm
    refine z_iload (pc2 := 95) rfl rfl rfl ?_
    refine z_aload_n (pc2 := 96) rfl rfl rfl ?_
    refine z_getI (pc2 := 99) 0 rfl rfl rfl rfl rfl t56 ?_
    intro v1 e1 r1 k1
    replace k1 : (0 : Int) ≤ v1 ∧ v1 ≤ 42 := k1; clear r1
    replace e1 : L2 = v1 := by rw [e1]; first | exact (zJu_k hI2 (by decide) hL3) | exact Eq.symm (zJu_k hI2 (by decide) hL3) | (simp [zU]; first | done | exact (zJu_k hI2 (by decide) hL3) | exact Eq.symm (zJu_k hI2 (by decide) hL3) | omega)
    subst e1
    refine z_icmp_ge (t := 148) (pc2 := 102) rfl rfl rfl (by omega) (by omega) (fun c2 => ?_) (fun c2 => ?_)
    ·
      refine z_iconst (pc2 := 149) rfl rfl ?_
      refine z_iret rfl rfl ?_
      exact hK _ _ _ (by omega) (by repeat (first | exact zJu_rf _ | assumption | refine zJu_a ?_ | refine zJu_f ?_ (by decide)))
    ·
      refine z_aload_n (pc2 := 103) rfl rfl rfl ?_
      refine z_getP (pc2 := 106) rfl rfl rfl rfl t56 ?_
      intro p3 p3e p3k; replace p3k : p3 = some 82 := p3k; clear p3e; subst p3k
      refine z_iload (pc2 := 108) rfl rfl rfl ?_
      refine z_iald (pc2 := 109) rfl rfl t82 (by omega) (by omega) (by decide) ?_
      intro v4 e4 r4 k4
      clear e4
      replace k4 : zGd v4 := k4
      refine z_callS (y2 := 172) (as := [_]) (rest := []) (pc2 := 112) rfl rfl rfl rfl ?_
      refine z_inl ?_
      refine z_lv (lv2 := [(0, _)]) ⟨rfl, trivial⟩ ?_
      refine z_iload_n (pc2 := 1) rfl rfl rfl ?_
      refine z_bipush (pc2 := 3) rfl rfl (by decide) ?_
      refine z_and_7 (pc2 := 4) rfl rfl ?_
      refine z_iconst (pc2 := 5) rfl rfl ?_
      refine z_isub (pc2 := 6) rfl rfl ?_
      refine z_iret rfl rfl ?_
      show zB _ _ _ _ _ _ [_] _ _
      refine z_iconst (pc2 := 113) rfl rfl ?_
      refine z_icmp_ne (t := 142) (pc2 := 116) rfl rfl rfl (by omega) (by omega) (fun c6 => ?_) (fun c6 => ?_)
      ·
        refine z_iinc (lv2 := [(6, _), (0, _), (2, _), (5, _)]) (pc2 := 145) rfl rfl rfl rfl rfl ?_
        refine z_goto (pc2 := 93) rfl rfl ?_
        refine z_lv (lv2 := [(0, _), (2, _), (5, _), (6, _)]) ⟨rfl, rfl, rfl, rfl, trivial⟩ ?_
        exact ih _ _ _ _ (by omega) (by repeat (first | exact zJu_rf _ | assumption | refine zJu_a ?_ | refine zJu_f ?_ (by decide))) (by omega) (by omega)
      ·
        refine z_aload_n (pc2 := 117) rfl rfl rfl ?_
        refine z_iload (pc2 := 119) rfl rfl rfl ?_
        refine z_iload_n (pc2 := 120) rfl rfl rfl ?_
        refine z_aload_n (pc2 := 121) rfl rfl rfl ?_
        refine z_getI (pc2 := 124) 0 rfl rfl rfl rfl rfl t56 ?_
        intro v7 e7 r7 k7
        replace k7 : (0 : Int) ≤ v7 ∧ v7 ≤ 42 := k7; clear r7
        replace e7 : S = v7 := by rw [e7]; first | exact (zJu_k hI2 (by decide) hS3) | exact Eq.symm (zJu_k hI2 (by decide) hS3) | (simp [zU]; first | done | exact (zJu_k hI2 (by decide) hS3) | exact Eq.symm (zJu_k hI2 (by decide) hS3) | omega)
        subst e7
        refine z_idiv (pc2 := 125) rfl rfl (z_ne0 (by omega) (by omega)) (fun r8 => ?_)
        refine z_iload (pc2 := 127) rfl rfl rfl ?_
        refine z_if_any (t := 134) (pc2 := 130) rfl rfl rfl ?_ ?_
        ·
          refine z_iconst (pc2 := 135) rfl rfl ?_
          refine z_iadd (pc2 := 136) rfl rfl ?_
          refine z_callV (y2 := 236) (as := [_, _]) (rest := []) (pc2 := 139) rfl rfl rfl rfl t56 rfl ?_
          refine z_inl ?_
          refine z_lv (lv2 := [(0, _), (1, _), (2, _)]) ⟨rfl, rfl, rfl, trivial⟩ ?_
          refine z_aload_n (pc2 := 1) rfl rfl rfl ?_
          refine z_getP (pc2 := 4) rfl rfl rfl rfl t56 ?_
          intro p10 p10e p10k; replace p10k : p10 = some 82 := p10k; clear p10e; subst p10k
          refine z_iload_n (pc2 := 5) rfl rfl rfl ?_
          refine z_aload_n (pc2 := 6) rfl rfl rfl ?_
          refine z_getP (pc2 := 9) rfl rfl rfl rfl t56 ?_
          intro p11 p11e p11k; replace p11k : p11 = some 82 := p11k; clear p11e; subst p11k
          refine z_iload_n (pc2 := 10) rfl rfl rfl ?_
          refine z_iald (pc2 := 11) rfl rfl t82 (by omega) (by omega) (by decide) ?_
          intro v12 e12 r12 k12
          clear e12
          replace k12 : zGd v12 := k12
          refine z_iload_n (pc2 := 12) rfl rfl rfl ?_
          refine z_callS (y2 := 176) (as := [_, _]) (rest := [_, _]) (pc2 := 15) rfl rfl rfl rfl ?_
          refine m_withAdded2 (by omega) (fun w13 w13m => ?_)
          show zB _ _ _ _ _ _ [_, _, _] _ _
          refine z_iast_w (pc2 := 16) rfl rfl t82 (by omega) (by omega) (by decide) (fun u hu1 hu2 => by show zGd _; exact zGd_mod (s := v12) (by assumption) (by omega)) (fun u14 u14r => ?_); clear u14r
          refine z_aload_n (pc2 := 17) rfl rfl rfl ?_
          refine z_dup (pc2 := 18) rfl rfl rfl ?_
          refine z_getI (pc2 := 21) 0 rfl rfl rfl rfl rfl t56 ?_
          intro v15 e15 r15 k15
          clear e15
          clear k15
          refine z_iload_n (pc2 := 22) rfl rfl rfl ?_
          refine z_iadd (pc2 := 23) rfl rfl ?_
          refine z_putI_any (pc2 := 26) rfl rfl rfl rfl rfl rfl t56 (fun _ _ => True.intro) (fun u16 u16r => ?_); clear u16r
          refine z_ret rfl rfl ?_
          show zB _ _ _ _ _ _ [] _ _
          refine z_iinc (lv2 := [(5, _), (0, _), (2, _), (6, _)]) (pc2 := 142) rfl rfl rfl rfl rfl ?_
          refine z_iinc (lv2 := [(6, _), (5, _), (0, _), (2, _)]) (pc2 := 145) rfl rfl rfl rfl rfl ?_
          refine z_goto (pc2 := 93) rfl rfl ?_
          refine z_lv (lv2 := [(0, _), (2, _), (5, _), (6, _)]) ⟨rfl, rfl, rfl, rfl, trivial⟩ ?_
          exact ih _ _ _ _ (by omega) (by repeat (first | exact zJu_rf _ | assumption | refine zJu_a ?_ | refine zJu_f ?_ (by decide))) (by omega) (by omega)
        ·
          refine z_iconst (pc2 := 131) rfl rfl ?_
          refine z_goto (pc2 := 135) rfl rfl ?_
          refine z_iadd (pc2 := 136) rfl rfl ?_
          refine z_callV (y2 := 236) (as := [_, _]) (rest := []) (pc2 := 139) rfl rfl rfl rfl t56 rfl ?_
          refine z_inl ?_
          refine z_lv (lv2 := [(0, _), (1, _), (2, _)]) ⟨rfl, rfl, rfl, trivial⟩ ?_
          refine z_aload_n (pc2 := 1) rfl rfl rfl ?_
          refine z_getP (pc2 := 4) rfl rfl rfl rfl t56 ?_
          intro p17 p17e p17k; replace p17k : p17 = some 82 := p17k; clear p17e; subst p17k
          refine z_iload_n (pc2 := 5) rfl rfl rfl ?_
          refine z_aload_n (pc2 := 6) rfl rfl rfl ?_
          refine z_getP (pc2 := 9) rfl rfl rfl rfl t56 ?_
          intro p18 p18e p18k; replace p18k : p18 = some 82 := p18k; clear p18e; subst p18k
          refine z_iload_n (pc2 := 10) rfl rfl rfl ?_
          refine z_iald (pc2 := 11) rfl rfl t82 (by omega) (by omega) (by decide) ?_
          intro v19 e19 r19 k19
          clear e19
          replace k19 : zGd v19 := k19
          refine z_iload_n (pc2 := 12) rfl rfl rfl ?_
          refine z_callS (y2 := 176) (as := [_, _]) (rest := [_, _]) (pc2 := 15) rfl rfl rfl rfl ?_
          refine m_withAdded2 (by omega) (fun w20 w20m => ?_)
          show zB _ _ _ _ _ _ [_, _, _] _ _
          refine z_iast_w (pc2 := 16) rfl rfl t82 (by omega) (by omega) (by decide) (fun u hu1 hu2 => by show zGd _; exact zGd_mod (s := v19) (by assumption) (by omega)) (fun u21 u21r => ?_); clear u21r
          refine z_aload_n (pc2 := 17) rfl rfl rfl ?_
          refine z_dup (pc2 := 18) rfl rfl rfl ?_
          refine z_getI (pc2 := 21) 0 rfl rfl rfl rfl rfl t56 ?_
          intro v22 e22 r22 k22
          clear e22
          clear k22
          refine z_iload_n (pc2 := 22) rfl rfl rfl ?_
          refine z_iadd (pc2 := 23) rfl rfl ?_
          refine z_putI_any (pc2 := 26) rfl rfl rfl rfl rfl rfl t56 (fun _ _ => True.intro) (fun u23 u23r => ?_); clear u23r
          refine z_ret rfl rfl ?_
          show zB _ _ _ _ _ _ [] _ _
          refine z_iinc (lv2 := [(5, _), (0, _), (2, _), (6, _)]) (pc2 := 142) rfl rfl rfl rfl rfl ?_
          refine z_iinc (lv2 := [(6, _), (5, _), (0, _), (2, _)]) (pc2 := 145) rfl rfl rfl rfl rfl ?_
          refine z_goto (pc2 := 93) rfl rfl ?_
          refine z_lv (lv2 := [(0, _), (2, _), (5, _), (6, _)]) ⟨rfl, rfl, rfl, rfl, trivial⟩ ?_
          exact ih _ _ _ _ (by omega) (by repeat (first | exact zJu_rf _ | assumption | refine zJu_a ?_ | refine zJu_f ?_ (by decide))) (by omega) (by omega)
set_option maxHeartbeats 8000000 in
theorem l_justified4 {L : Nat} {xs : Nat → Int32} {n sl : Nat} {T : Nat → zT} {I : Nat → Nat → Int} {P : Nat → Nat → Option Nat} {K : List zV → zH → Prop} {u i L2 H : Int} (hT : ∀ a, 56 ≤ a → a ≤ 90 → T a = zFix a) (hu : zR u) (hi : 0 ≤ i ∧ i ≤ 7) (hL2 : 0 ≤ L2 ∧ L2 ≤ 40) (hH : 1 ≤ H ∧ H ≤ 120) (hL3 : I 56 31 = L2) (hH3 : I 56 37 = H) (hK : ∀ e I2 G2, (0 ≤ e ∧ e ≤ 3) → zJu I I2 → K [.inl e] (n, sl, T, I2, P, G2)) (m : Nat) : ∀ (I2 : Nat → Nat → Int) (G2 : Nat → Nat → Int), ∀ (d k : Int), 0 ≤ k ∧ k ≤ 40 → zJu I I2 → k ≤ L2 → (40 - k).toNat < m → zB zMd L xs 237 237 [(0, .inr (.inl (some 56))), (2, .inl u), (4, .inl i), (5, .inl d), (6, .inl k)] [] (n, sl, T, I2, P, G2) K := by
  have t56 : T 56 = (1, 12, [1]) := hT 56 (by decide) (by decide)
  have t72 : T 72 = (2, 0, [8, 0]) := hT 72 (by decide) (by decide)
  have t82 : T 82 = (2, 0, [42, 8]) := hT 82 (by decide) (by decide)
  induction m with
  | zero => intro I2 G2 d k hk hI2 hb3 hm; omega
  | succ m ih =>
    intro I2 G2 d k hk hI2 hb3 hm
    refine z_iload (pc2 := 239) rfl rfl rfl ?_
    refine z_aload_n (pc2 := 240) rfl rfl rfl ?_
    refine z_getI (pc2 := 243) 0 rfl rfl rfl rfl rfl t56 ?_
    intro v1 e1 r1 k1
    replace k1 : (0 : Int) ≤ v1 ∧ v1 ≤ 42 := k1; clear r1
    replace e1 : L2 = v1 := by rw [e1]; first | exact (zJu_k hI2 (by decide) hL3) | exact Eq.symm (zJu_k hI2 (by decide) hL3) | (simp [zU]; first | done | exact (zJu_k hI2 (by decide) hL3) | exact Eq.symm (zJu_k hI2 (by decide) hL3) | omega)
    subst e1
    refine z_icmp_ge (t := 311) (pc2 := 246) rfl rfl rfl (by omega) (by omega) (fun c2 => ?_) (fun c2 => ?_)
    ·
      refine z_iload_n (pc2 := 312) rfl rfl rfl ?_
      refine z_aload_n (pc2 := 313) rfl rfl rfl ?_
      refine z_getP (pc2 := 316) rfl rfl rfl rfl t56 ?_
      intro p3 p3e p3k; replace p3k : p3 = some 72 := p3k; clear p3e; subst p3k
      refine z_iload (pc2 := 318) rfl rfl rfl ?_
      refine z_iald (pc2 := 319) rfl rfl t72 (by omega) (by omega) (by decide) ?_
      intro v4 e4 r4 k4
      clear e4
      clear k4
      refine z_aload_n (pc2 := 320) rfl rfl rfl ?_
      refine z_getI (pc2 := 323) 0 rfl rfl rfl rfl rfl t56 ?_
      intro v5 e5 r5 k5
      replace k5 : (0 : Int) ≤ v5 ∧ v5 ≤ 126 := k5; clear r5
      replace e5 : H = v5 := by rw [e5]; first | exact (zJu_k hI2 (by decide) hH3) | exact Eq.symm (zJu_k hI2 (by decide) hH3) | (simp [zU]; first | done | exact (zJu_k hI2 (by decide) hH3) | exact Eq.symm (zJu_k hI2 (by decide) hH3) | omega)
      subst e5
      refine z_imulN (pc2 := 324) rfl rfl (fun q6 q6r q6z => ?_)
      refine z_icmp_le (t := 331) (pc2 := 327) rfl rfl rfl (by omega) (by omega) (fun c7 => ?_) (fun c7 => ?_)
      ·
        refine z_iconst (pc2 := 332) rfl rfl ?_
        refine z_iret rfl rfl ?_
        exact hK _ _ _ (by omega) (by repeat (first | exact zJu_rf _ | assumption | refine zJu_a ?_ | refine zJu_f ?_ (by decide)))
      ·
        refine z_iconst (pc2 := 328) rfl rfl ?_
        refine z_goto (pc2 := 332) rfl rfl ?_
        refine z_iret rfl rfl ?_
        exact hK _ _ _ (by omega) (by repeat (first | exact zJu_rf _ | assumption | refine zJu_a ?_ | refine zJu_f ?_ (by decide)))
    ·
      refine z_aload_n (pc2 := 247) rfl rfl rfl ?_
      refine z_getP (pc2 := 250) rfl rfl rfl rfl t56 ?_
      intro p8 p8e p8k; replace p8k : p8 = some 82 := p8k; clear p8e; subst p8k
      refine z_iload (pc2 := 252) rfl rfl rfl ?_
      refine z_iald (pc2 := 253) rfl rfl t82 (by omega) (by omega) (by decide) ?_
      intro v9 e9 r9 k9
      clear e9
      replace k9 : zGd v9 := k9
      refine z_callS (y2 := 181) (as := [_]) (rest := []) (pc2 := 256) rfl rfl rfl rfl ?_
      refine m_isStretched (by omega) (fun w10 w10r w10g w10h => ?_)
      show zB _ _ _ _ _ _ [_] _ _
      refine z_if_eq (t := 305) (pc2 := 259) rfl rfl rfl (by omega) (fun c11 => ?_) (fun c11 => ?_)
      ·
        refine z_iinc (lv2 := [(6, _), (0, _), (2, _), (4, _), (5, _)]) (pc2 := 308) rfl rfl rfl rfl rfl ?_
        refine z_goto (pc2 := 237) rfl rfl ?_
        refine z_lv (lv2 := [(0, _), (2, _), (4, _), (5, _), (6, _)]) ⟨rfl, rfl, rfl, rfl, rfl, trivial⟩ ?_
        exact ih _ _ _ _ (by omega) (by repeat (first | exact zJu_rf _ | assumption | refine zJu_a ?_ | refine zJu_f ?_ (by decide))) (by omega) (by omega)
      ·
        refine z_aload_n (pc2 := 260) rfl rfl rfl ?_
        refine z_iload (pc2 := 262) rfl rfl rfl ?_
        refine z_iload_n (pc2 := 263) rfl rfl rfl ?_
        refine z_aload_n (pc2 := 264) rfl rfl rfl ?_
        refine z_getP (pc2 := 267) rfl rfl rfl rfl t56 ?_
        intro p12 p12e p12k; replace p12k : p12 = some 82 := p12k; clear p12e; subst p12k
        refine z_iload (pc2 := 269) rfl rfl rfl ?_
        refine z_iald (pc2 := 270) rfl rfl t82 (by omega) (by omega) (by decide) ?_
        intro v13 e13 r13 k13
        clear e13
        replace k13 : zGd v13 := k13
        refine z_callS (y2 := 172) (as := [_]) (rest := [_, _, _]) (pc2 := 273) rfl rfl rfl rfl ?_
        refine z_inl ?_
        refine z_lv (lv2 := [(0, _)]) ⟨rfl, trivial⟩ ?_
        refine z_iload_n (pc2 := 1) rfl rfl rfl ?_
        refine z_bipush (pc2 := 3) rfl rfl (by decide) ?_
        refine z_and_7 (pc2 := 4) rfl rfl ?_
        refine z_iconst (pc2 := 5) rfl rfl ?_
        refine z_isub (pc2 := 6) rfl rfl ?_
        refine z_iret rfl rfl ?_
        show zB _ _ _ _ _ _ [_, _, _, _] _ _
        refine z_iconst (pc2 := 274) rfl rfl ?_
        refine z_icmp_ne (t := 281) (pc2 := 277) rfl rfl rfl (by omega) (by omega) (fun c15 => ?_) (fun c15 => ?_)
        ·
          refine z_iconst (pc2 := 282) rfl rfl ?_
          refine z_imul (pc2 := 283) rfl rfl ?_
          refine z_aload_n (pc2 := 284) rfl rfl rfl ?_
          refine z_getI (pc2 := 287) 0 rfl rfl rfl rfl rfl t56 ?_
          intro v16 e16 r16 k16
          replace k16 : (0 : Int) ≤ v16 ∧ v16 ≤ 126 := k16; clear r16
          replace e16 : H = v16 := by rw [e16]; first | exact (zJu_k hI2 (by decide) hH3) | exact Eq.symm (zJu_k hI2 (by decide) hH3) | (simp [zU]; first | done | exact (zJu_k hI2 (by decide) hH3) | exact Eq.symm (zJu_k hI2 (by decide) hH3) | omega)
          subst e16
          refine z_idiv (pc2 := 288) rfl rfl (z_ne0 (by omega) (by omega)) (fun r17 => ?_)
          refine z_iload (pc2 := 290) rfl rfl rfl ?_
          refine z_if_any (t := 297) (pc2 := 293) rfl rfl rfl ?_ ?_
          ·
            refine z_iconst (pc2 := 298) rfl rfl ?_
            refine z_iadd (pc2 := 299) rfl rfl ?_
            refine z_callV (y2 := 236) (as := [_, _]) (rest := []) (pc2 := 302) rfl rfl rfl rfl t56 rfl ?_
            refine z_inl ?_
            refine z_lv (lv2 := [(0, _), (1, _), (2, _)]) ⟨rfl, rfl, rfl, trivial⟩ ?_
            refine z_aload_n (pc2 := 1) rfl rfl rfl ?_
            refine z_getP (pc2 := 4) rfl rfl rfl rfl t56 ?_
            intro p19 p19e p19k; replace p19k : p19 = some 82 := p19k; clear p19e; subst p19k
            refine z_iload_n (pc2 := 5) rfl rfl rfl ?_
            refine z_aload_n (pc2 := 6) rfl rfl rfl ?_
            refine z_getP (pc2 := 9) rfl rfl rfl rfl t56 ?_
            intro p20 p20e p20k; replace p20k : p20 = some 82 := p20k; clear p20e; subst p20k
            refine z_iload_n (pc2 := 10) rfl rfl rfl ?_
            refine z_iald (pc2 := 11) rfl rfl t82 (by omega) (by omega) (by decide) ?_
            intro v21 e21 r21 k21
            clear e21
            replace k21 : zGd v21 := k21
            refine z_iload_n (pc2 := 12) rfl rfl rfl ?_
            refine z_callS (y2 := 176) (as := [_, _]) (rest := [_, _]) (pc2 := 15) rfl rfl rfl rfl ?_
            refine m_withAdded2 (by omega) (fun w22 w22m => ?_)
            show zB _ _ _ _ _ _ [_, _, _] _ _
            refine z_iast_w (pc2 := 16) rfl rfl t82 (by omega) (by omega) (by decide) (fun u hu1 hu2 => by show zGd _; exact zGd_mod (s := v21) (by assumption) (by omega)) (fun u23 u23r => ?_); clear u23r
            refine z_aload_n (pc2 := 17) rfl rfl rfl ?_
            refine z_dup (pc2 := 18) rfl rfl rfl ?_
            refine z_getI (pc2 := 21) 0 rfl rfl rfl rfl rfl t56 ?_
            intro v24 e24 r24 k24
            clear e24
            clear k24
            refine z_iload_n (pc2 := 22) rfl rfl rfl ?_
            refine z_iadd (pc2 := 23) rfl rfl ?_
            refine z_putI_any (pc2 := 26) rfl rfl rfl rfl rfl rfl t56 (fun _ _ => True.intro) (fun u25 u25r => ?_); clear u25r
            refine z_ret rfl rfl ?_
            show zB _ _ _ _ _ _ [] _ _
            refine z_iinc (lv2 := [(5, _), (0, _), (2, _), (4, _), (6, _)]) (pc2 := 305) rfl rfl rfl rfl rfl ?_
            refine z_iinc (lv2 := [(6, _), (5, _), (0, _), (2, _), (4, _)]) (pc2 := 308) rfl rfl rfl rfl rfl ?_
            refine z_goto (pc2 := 237) rfl rfl ?_
            refine z_lv (lv2 := [(0, _), (2, _), (4, _), (5, _), (6, _)]) ⟨rfl, rfl, rfl, rfl, rfl, trivial⟩ ?_
            exact ih _ _ _ _ (by omega) (by repeat (first | exact zJu_rf _ | assumption | refine zJu_a ?_ | refine zJu_f ?_ (by decide))) (by omega) (by omega)
          ·
            refine z_iconst (pc2 := 294) rfl rfl ?_
            refine z_goto (pc2 := 298) rfl rfl ?_
            refine z_iadd (pc2 := 299) rfl rfl ?_
            refine z_callV (y2 := 236) (as := [_, _]) (rest := []) (pc2 := 302) rfl rfl rfl rfl t56 rfl ?_
            refine z_inl ?_
            refine z_lv (lv2 := [(0, _), (1, _), (2, _)]) ⟨rfl, rfl, rfl, trivial⟩ ?_
            refine z_aload_n (pc2 := 1) rfl rfl rfl ?_
            refine z_getP (pc2 := 4) rfl rfl rfl rfl t56 ?_
            intro p26 p26e p26k; replace p26k : p26 = some 82 := p26k; clear p26e; subst p26k
            refine z_iload_n (pc2 := 5) rfl rfl rfl ?_
            refine z_aload_n (pc2 := 6) rfl rfl rfl ?_
            refine z_getP (pc2 := 9) rfl rfl rfl rfl t56 ?_
            intro p27 p27e p27k; replace p27k : p27 = some 82 := p27k; clear p27e; subst p27k
            refine z_iload_n (pc2 := 10) rfl rfl rfl ?_
            refine z_iald (pc2 := 11) rfl rfl t82 (by omega) (by omega) (by decide) ?_
            intro v28 e28 r28 k28
            clear e28
            replace k28 : zGd v28 := k28
            refine z_iload_n (pc2 := 12) rfl rfl rfl ?_
            refine z_callS (y2 := 176) (as := [_, _]) (rest := [_, _]) (pc2 := 15) rfl rfl rfl rfl ?_
            refine m_withAdded2 (by omega) (fun w29 w29m => ?_)
            show zB _ _ _ _ _ _ [_, _, _] _ _
            refine z_iast_w (pc2 := 16) rfl rfl t82 (by omega) (by omega) (by decide) (fun u hu1 hu2 => by show zGd _; exact zGd_mod (s := v28) (by assumption) (by omega)) (fun u30 u30r => ?_); clear u30r
            refine z_aload_n (pc2 := 17) rfl rfl rfl ?_
            refine z_dup (pc2 := 18) rfl rfl rfl ?_
            refine z_getI (pc2 := 21) 0 rfl rfl rfl rfl rfl t56 ?_
            intro v31 e31 r31 k31
            clear e31
            clear k31
            refine z_iload_n (pc2 := 22) rfl rfl rfl ?_
            refine z_iadd (pc2 := 23) rfl rfl ?_
            refine z_putI_any (pc2 := 26) rfl rfl rfl rfl rfl rfl t56 (fun _ _ => True.intro) (fun u32 u32r => ?_); clear u32r
            refine z_ret rfl rfl ?_
            show zB _ _ _ _ _ _ [] _ _
            refine z_iinc (lv2 := [(5, _), (0, _), (2, _), (4, _), (6, _)]) (pc2 := 305) rfl rfl rfl rfl rfl ?_
            refine z_iinc (lv2 := [(6, _), (5, _), (0, _), (2, _), (4, _)]) (pc2 := 308) rfl rfl rfl rfl rfl ?_
            refine z_goto (pc2 := 237) rfl rfl ?_
            refine z_lv (lv2 := [(0, _), (2, _), (4, _), (5, _), (6, _)]) ⟨rfl, rfl, rfl, rfl, rfl, trivial⟩ ?_
            exact ih _ _ _ _ (by omega) (by repeat (first | exact zJu_rf _ | assumption | refine zJu_a ?_ | refine zJu_f ?_ (by decide))) (by omega) (by omega)
        ·
          refine z_iconst (pc2 := 278) rfl rfl ?_
          refine z_goto (pc2 := 282) rfl rfl ?_
          refine z_imul (pc2 := 283) rfl rfl ?_
          refine z_aload_n (pc2 := 284) rfl rfl rfl ?_
          refine z_getI (pc2 := 287) 0 rfl rfl rfl rfl rfl t56 ?_
          intro v33 e33 r33 k33
          replace k33 : (0 : Int) ≤ v33 ∧ v33 ≤ 126 := k33; clear r33
          replace e33 : H = v33 := by rw [e33]; first | exact (zJu_k hI2 (by decide) hH3) | exact Eq.symm (zJu_k hI2 (by decide) hH3) | (simp [zU]; first | done | exact (zJu_k hI2 (by decide) hH3) | exact Eq.symm (zJu_k hI2 (by decide) hH3) | omega)
          subst e33
          refine z_idiv (pc2 := 288) rfl rfl (z_ne0 (by omega) (by omega)) (fun r34 => ?_)
          refine z_iload (pc2 := 290) rfl rfl rfl ?_
          refine z_if_any (t := 297) (pc2 := 293) rfl rfl rfl ?_ ?_
          ·
            refine z_iconst (pc2 := 298) rfl rfl ?_
            refine z_iadd (pc2 := 299) rfl rfl ?_
            refine z_callV (y2 := 236) (as := [_, _]) (rest := []) (pc2 := 302) rfl rfl rfl rfl t56 rfl ?_
            refine z_inl ?_
            refine z_lv (lv2 := [(0, _), (1, _), (2, _)]) ⟨rfl, rfl, rfl, trivial⟩ ?_
            refine z_aload_n (pc2 := 1) rfl rfl rfl ?_
            refine z_getP (pc2 := 4) rfl rfl rfl rfl t56 ?_
            intro p36 p36e p36k; replace p36k : p36 = some 82 := p36k; clear p36e; subst p36k
            refine z_iload_n (pc2 := 5) rfl rfl rfl ?_
            refine z_aload_n (pc2 := 6) rfl rfl rfl ?_
            refine z_getP (pc2 := 9) rfl rfl rfl rfl t56 ?_
            intro p37 p37e p37k; replace p37k : p37 = some 82 := p37k; clear p37e; subst p37k
            refine z_iload_n (pc2 := 10) rfl rfl rfl ?_
            refine z_iald (pc2 := 11) rfl rfl t82 (by omega) (by omega) (by decide) ?_
            intro v38 e38 r38 k38
            clear e38
            replace k38 : zGd v38 := k38
            refine z_iload_n (pc2 := 12) rfl rfl rfl ?_
            refine z_callS (y2 := 176) (as := [_, _]) (rest := [_, _]) (pc2 := 15) rfl rfl rfl rfl ?_
            refine m_withAdded2 (by omega) (fun w39 w39m => ?_)
            show zB _ _ _ _ _ _ [_, _, _] _ _
            refine z_iast_w (pc2 := 16) rfl rfl t82 (by omega) (by omega) (by decide) (fun u hu1 hu2 => by show zGd _; exact zGd_mod (s := v38) (by assumption) (by omega)) (fun u40 u40r => ?_); clear u40r
            refine z_aload_n (pc2 := 17) rfl rfl rfl ?_
            refine z_dup (pc2 := 18) rfl rfl rfl ?_
            refine z_getI (pc2 := 21) 0 rfl rfl rfl rfl rfl t56 ?_
            intro v41 e41 r41 k41
            clear e41
            clear k41
            refine z_iload_n (pc2 := 22) rfl rfl rfl ?_
            refine z_iadd (pc2 := 23) rfl rfl ?_
            refine z_putI_any (pc2 := 26) rfl rfl rfl rfl rfl rfl t56 (fun _ _ => True.intro) (fun u42 u42r => ?_); clear u42r
            refine z_ret rfl rfl ?_
            show zB _ _ _ _ _ _ [] _ _
            refine z_iinc (lv2 := [(5, _), (0, _), (2, _), (4, _), (6, _)]) (pc2 := 305) rfl rfl rfl rfl rfl ?_
            refine z_iinc (lv2 := [(6, _), (5, _), (0, _), (2, _), (4, _)]) (pc2 := 308) rfl rfl rfl rfl rfl ?_
            refine z_goto (pc2 := 237) rfl rfl ?_
            refine z_lv (lv2 := [(0, _), (2, _), (4, _), (5, _), (6, _)]) ⟨rfl, rfl, rfl, rfl, rfl, trivial⟩ ?_
            exact ih _ _ _ _ (by omega) (by repeat (first | exact zJu_rf _ | assumption | refine zJu_a ?_ | refine zJu_f ?_ (by decide))) (by omega) (by omega)
          ·
            refine z_iconst (pc2 := 294) rfl rfl ?_
            refine z_goto (pc2 := 298) rfl rfl ?_
            refine z_iadd (pc2 := 299) rfl rfl ?_
            refine z_callV (y2 := 236) (as := [_, _]) (rest := []) (pc2 := 302) rfl rfl rfl rfl t56 rfl ?_
            refine z_inl ?_
            refine z_lv (lv2 := [(0, _), (1, _), (2, _)]) ⟨rfl, rfl, rfl, trivial⟩ ?_
            refine z_aload_n (pc2 := 1) rfl rfl rfl ?_
            refine z_getP (pc2 := 4) rfl rfl rfl rfl t56 ?_
            intro p43 p43e p43k; replace p43k : p43 = some 82 := p43k; clear p43e; subst p43k
            refine z_iload_n (pc2 := 5) rfl rfl rfl ?_
            refine z_aload_n (pc2 := 6) rfl rfl rfl ?_
            refine z_getP (pc2 := 9) rfl rfl rfl rfl t56 ?_
            intro p44 p44e p44k; replace p44k : p44 = some 82 := p44k; clear p44e; subst p44k
            refine z_iload_n (pc2 := 10) rfl rfl rfl ?_
            refine z_iald (pc2 := 11) rfl rfl t82 (by omega) (by omega) (by decide) ?_
            intro v45 e45 r45 k45
            clear e45
            replace k45 : zGd v45 := k45
            refine z_iload_n (pc2 := 12) rfl rfl rfl ?_
            refine z_callS (y2 := 176) (as := [_, _]) (rest := [_, _]) (pc2 := 15) rfl rfl rfl rfl ?_
            refine m_withAdded2 (by omega) (fun w46 w46m => ?_)
            show zB _ _ _ _ _ _ [_, _, _] _ _
            refine z_iast_w (pc2 := 16) rfl rfl t82 (by omega) (by omega) (by decide) (fun u hu1 hu2 => by show zGd _; exact zGd_mod (s := v45) (by assumption) (by omega)) (fun u47 u47r => ?_); clear u47r
            refine z_aload_n (pc2 := 17) rfl rfl rfl ?_
            refine z_dup (pc2 := 18) rfl rfl rfl ?_
            refine z_getI (pc2 := 21) 0 rfl rfl rfl rfl rfl t56 ?_
            intro v48 e48 r48 k48
            clear e48
            clear k48
            refine z_iload_n (pc2 := 22) rfl rfl rfl ?_
            refine z_iadd (pc2 := 23) rfl rfl ?_
            refine z_putI_any (pc2 := 26) rfl rfl rfl rfl rfl rfl t56 (fun _ _ => True.intro) (fun u49 u49r => ?_); clear u49r
            refine z_ret rfl rfl ?_
            show zB _ _ _ _ _ _ [] _ _
            refine z_iinc (lv2 := [(5, _), (0, _), (2, _), (4, _), (6, _)]) (pc2 := 305) rfl rfl rfl rfl rfl ?_
            refine z_iinc (lv2 := [(6, _), (5, _), (0, _), (2, _), (4, _)]) (pc2 := 308) rfl rfl rfl rfl rfl ?_
            refine z_goto (pc2 := 237) rfl rfl ?_
            refine z_lv (lv2 := [(0, _), (2, _), (4, _), (5, _), (6, _)]) ⟨rfl, rfl, rfl, rfl, rfl, trivial⟩ ?_
            exact ih _ _ _ _ (by omega) (by repeat (first | exact zJu_rf _ | assumption | refine zJu_a ?_ | refine zJu_f ?_ (by decide))) (by omega) (by omega)
set_option maxHeartbeats 8000000 in
theorem l_justified3 {L : Nat} {xs : Nat → Int32} {n sl : Nat} {T : Nat → zT} {I : Nat → Nat → Int} {P : Nat → Nat → Option Nat} {K : List zV → zH → Prop} {u i L2 H : Int} (hT : ∀ a, 56 ≤ a → a ≤ 90 → T a = zFix a) (hu : zR u) (hi : 0 ≤ i ∧ i ≤ 7) (hL2 : 0 ≤ L2 ∧ L2 ≤ 40) (hH : 1 ≤ H ∧ H ≤ 120) (hL3 : I 56 31 = L2) (hH3 : I 56 37 = H) (hK : ∀ e I2 G2, (0 ≤ e ∧ e ≤ 3) → zJu I I2 → K [.inl e] (n, sl, T, I2, P, G2)) (m : Nat) : ∀ (I2 : Nat → Nat → Int) (G2 : Nat → Nat → Int), ∀ (d k : Int), 0 ≤ k ∧ k ≤ 40 → zJu I I2 → k ≤ L2 → (40 - k).toNat < m → zB zMd L xs 237 175 [(0, .inr (.inl (some 56))), (2, .inl u), (4, .inl i), (5, .inl d), (6, .inl k)] [] (n, sl, T, I2, P, G2) K := by
  have t56 : T 56 = (1, 12, [1]) := hT 56 (by decide) (by decide)
  have t82 : T 82 = (2, 0, [42, 8]) := hT 82 (by decide) (by decide)
  induction m with
  | zero => intro I2 G2 d k hk hI2 hb3 hm; omega
  | succ m ih =>
    intro I2 G2 d k hk hI2 hb3 hm
    refine z_iload (pc2 := 177) rfl rfl rfl ?_
    refine z_aload_n (pc2 := 178) rfl rfl rfl ?_
    refine z_getI (pc2 := 181) 0 rfl rfl rfl rfl rfl t56 ?_
    intro v1 e1 r1 k1
    replace k1 : (0 : Int) ≤ v1 ∧ v1 ≤ 42 := k1; clear r1
    replace e1 : L2 = v1 := by rw [e1]; first | exact (zJu_k hI2 (by decide) hL3) | exact Eq.symm (zJu_k hI2 (by decide) hL3) | (simp [zU]; first | done | exact (zJu_k hI2 (by decide) hL3) | exact Eq.symm (zJu_k hI2 (by decide) hL3) | omega)
    subst e1
    refine z_icmp_ge (t := 234) (pc2 := 184) rfl rfl rfl (by omega) (by omega) (fun c2 => ?_) (fun c2 => ?_)
    ·
      refine z_iconst (pc2 := 235) rfl rfl ?_
      refine z_istore (lv2 := [(6, _), (0, _), (2, _), (4, _), (5, _)]) (pc2 := 237) rfl rfl rfl rfl ?_
      refine z_lv (lv2 := [(0, _), (2, _), (4, _), (5, _), (6, _)]) ⟨rfl, rfl, rfl, rfl, rfl, trivial⟩ ?_
      exact l_justified4 hT (by omega) (by omega) (by omega) (by omega) hL3 hH3 hK _ _ _ _ _ (by omega) hI2 (by omega) (Nat.lt_succ_self _)
    ·
      refine z_aload_n (pc2 := 185) rfl rfl rfl ?_
      refine z_getP (pc2 := 188) rfl rfl rfl rfl t56 ?_
      intro p3 p3e p3k; replace p3k : p3 = some 82 := p3k; clear p3e; subst p3k
      refine z_iload (pc2 := 190) rfl rfl rfl ?_
      refine z_iald (pc2 := 191) rfl rfl t82 (by omega) (by omega) (by decide) ?_
      intro v4 e4 r4 k4
      clear e4
      replace k4 : zGd v4 := k4
      refine z_callS (y2 := 181) (as := [_]) (rest := []) (pc2 := 194) rfl rfl rfl rfl ?_
      refine m_isStretched (by omega) (fun w5 w5r w5g w5h => ?_)
      show zB _ _ _ _ _ _ [_] _ _
      refine z_if_eq (t := 228) (pc2 := 197) rfl rfl rfl (by omega) (fun c6 => ?_) (fun c6 => ?_)
      ·
        refine z_iinc (lv2 := [(6, _), (0, _), (2, _), (4, _), (5, _)]) (pc2 := 231) rfl rfl rfl rfl rfl ?_
        refine z_goto (pc2 := 175) rfl rfl ?_
        refine z_lv (lv2 := [(0, _), (2, _), (4, _), (5, _), (6, _)]) ⟨rfl, rfl, rfl, rfl, rfl, trivial⟩ ?_
        exact ih _ _ _ _ (by omega) (by repeat (first | exact zJu_rf _ | assumption | refine zJu_a ?_ | refine zJu_f ?_ (by decide))) (by omega) (by omega)
      ·
        refine z_iload (pc2 := 199) rfl rfl rfl ?_
        refine z_iload_n (pc2 := 200) rfl rfl rfl ?_
        refine z_aload_n (pc2 := 201) rfl rfl rfl ?_
        refine z_getP (pc2 := 204) rfl rfl rfl rfl t56 ?_
        intro p7 p7e p7k; replace p7k : p7 = some 82 := p7k; clear p7e; subst p7k
        refine z_iload (pc2 := 206) rfl rfl rfl ?_
        refine z_iald (pc2 := 207) rfl rfl t82 (by omega) (by omega) (by decide) ?_
        intro v8 e8 r8 k8
        clear e8
        replace k8 : zGd v8 := k8
        refine z_callS (y2 := 172) (as := [_]) (rest := [_, _]) (pc2 := 210) rfl rfl rfl rfl ?_
        refine z_inl ?_
        refine z_lv (lv2 := [(0, _)]) ⟨rfl, trivial⟩ ?_
        refine z_iload_n (pc2 := 1) rfl rfl rfl ?_
        refine z_bipush (pc2 := 3) rfl rfl (by decide) ?_
        refine z_and_7 (pc2 := 4) rfl rfl ?_
        refine z_iconst (pc2 := 5) rfl rfl ?_
        refine z_isub (pc2 := 6) rfl rfl ?_
        refine z_iret rfl rfl ?_
        show zB _ _ _ _ _ _ [_, _, _] _ _
        refine z_iconst (pc2 := 211) rfl rfl ?_
        refine z_icmp_ne (t := 218) (pc2 := 214) rfl rfl rfl (by omega) (by omega) (fun c10 => ?_) (fun c10 => ?_)
        ·
          refine z_iconst (pc2 := 219) rfl rfl ?_
          refine z_imul (pc2 := 220) rfl rfl ?_
          refine z_aload_n (pc2 := 221) rfl rfl rfl ?_
          refine z_getI (pc2 := 224) 0 rfl rfl rfl rfl rfl t56 ?_
          intro v11 e11 r11 k11
          replace k11 : (0 : Int) ≤ v11 ∧ v11 ≤ 126 := k11; clear r11
          replace e11 : H = v11 := by rw [e11]; first | exact (zJu_k hI2 (by decide) hH3) | exact Eq.symm (zJu_k hI2 (by decide) hH3) | (simp [zU]; first | done | exact (zJu_k hI2 (by decide) hH3) | exact Eq.symm (zJu_k hI2 (by decide) hH3) | omega)
          subst e11
          refine z_idiv (pc2 := 225) rfl rfl (z_ne0 (by omega) (by omega)) (fun r12 => ?_)
          refine z_isub (pc2 := 226) rfl rfl ?_
          refine z_istore (lv2 := [(5, _), (0, _), (2, _), (4, _), (6, _)]) (pc2 := 228) rfl rfl rfl rfl ?_
          refine z_iinc (lv2 := [(6, _), (5, _), (0, _), (2, _), (4, _)]) (pc2 := 231) rfl rfl rfl rfl rfl ?_
          refine z_goto (pc2 := 175) rfl rfl ?_
          refine z_lv (lv2 := [(0, _), (2, _), (4, _), (5, _), (6, _)]) ⟨rfl, rfl, rfl, rfl, rfl, trivial⟩ ?_
          exact ih _ _ _ _ (by omega) (by repeat (first | exact zJu_rf _ | assumption | refine zJu_a ?_ | refine zJu_f ?_ (by decide))) (by omega) (by omega)
        ·
          refine z_iconst (pc2 := 215) rfl rfl ?_
          refine z_goto (pc2 := 219) rfl rfl ?_
          refine z_imul (pc2 := 220) rfl rfl ?_
          refine z_aload_n (pc2 := 221) rfl rfl rfl ?_
          refine z_getI (pc2 := 224) 0 rfl rfl rfl rfl rfl t56 ?_
          intro v14 e14 r14 k14
          replace k14 : (0 : Int) ≤ v14 ∧ v14 ≤ 126 := k14; clear r14
          replace e14 : H = v14 := by rw [e14]; first | exact (zJu_k hI2 (by decide) hH3) | exact Eq.symm (zJu_k hI2 (by decide) hH3) | (simp [zU]; first | done | exact (zJu_k hI2 (by decide) hH3) | exact Eq.symm (zJu_k hI2 (by decide) hH3) | omega)
          subst e14
          refine z_idiv (pc2 := 225) rfl rfl (z_ne0 (by omega) (by omega)) (fun r15 => ?_)
          refine z_isub (pc2 := 226) rfl rfl ?_
          refine z_istore (lv2 := [(5, _), (0, _), (2, _), (4, _), (6, _)]) (pc2 := 228) rfl rfl rfl rfl ?_
          refine z_iinc (lv2 := [(6, _), (5, _), (0, _), (2, _), (4, _)]) (pc2 := 231) rfl rfl rfl rfl rfl ?_
          refine z_goto (pc2 := 175) rfl rfl ?_
          refine z_lv (lv2 := [(0, _), (2, _), (4, _), (5, _), (6, _)]) ⟨rfl, rfl, rfl, rfl, rfl, trivial⟩ ?_
          exact ih _ _ _ _ (by omega) (by repeat (first | exact zJu_rf _ | assumption | refine zJu_a ?_ | refine zJu_f ?_ (by decide))) (by omega) (by omega)
set_option maxHeartbeats 8000000 in
theorem m_justified {L : Nat} {xs : Nat → Int32} {n sl : Nat} {T : Nat → zT} {I : Nat → Nat → Int} {P : Nat → Nat → Option Nat} {G : Nat → Nat → Int} {K : List zV → zH → Prop} {f u z L2 S H : Int} (hT : ∀ a, 56 ≤ a → a ≤ 90 → T a = zFix a) (hf : 0 ≤ f ∧ f ≤ 3) (hu : zR u) (hz : 0 ≤ z ∧ z ≤ 1) (hL2 : 0 ≤ L2 ∧ L2 ≤ 40) (hS : 0 ≤ S ∧ S ≤ 40) (hH : 0 ≤ H ∧ H ≤ 120) (hL3 : I 56 31 = L2) (hS3 : I 56 36 = S) (hH3 : I 56 37 = H) (hK : ∀ e I2 G2, (0 ≤ e ∧ e ≤ 3) → zJu I I2 → K [.inl e] (n, sl, T, I2, P, G2)) : zX zMd L xs 237 [.inr (.inl (some 56)), .inl f, .inl u, .inl z] (n, sl, T, I, P, G) K := by
  have t56 : T 56 = (1, 12, [1]) := hT 56 (by decide) (by decide)
  have t73 : T 73 = (2, 0, [8, 0]) := hT 73 (by decide) (by decide)
  refine z_inl ?_
  refine z_lv (lv2 := [(0, _), (1, _), (2, _), (3, _)]) ⟨rfl, rfl, rfl, rfl, trivial⟩ ?_
  refine z_aload_n (pc2 := 1) rfl rfl rfl ?_
  refine z_iload_n (pc2 := 2) rfl rfl rfl ?_
  refine z_callV (y2 := 163) (as := [_]) (rest := []) (pc2 := 5) rfl rfl rfl rfl t56 rfl ?_
  refine z_inl ?_
  refine z_lv (lv2 := [(0, _), (1, _)]) ⟨rfl, rfl, trivial⟩ ?_
  refine z_iconst (pc2 := 1) rfl rfl ?_
  refine z_aload_n (pc2 := 2) rfl rfl rfl ?_
  refine z_getI (pc2 := 5) 0 rfl rfl rfl rfl rfl t56 ?_
  intro v1 e1 r1 k1
  clear e1
  replace k1 : (0 : Int) ≤ v1 ∧ v1 ≤ 1 := k1; clear r1
  refine z_imul (pc2 := 6) rfl rfl ?_
  refine z_iload_n (pc2 := 7) rfl rfl rfl ?_
  refine z_iadd (pc2 := 8) rfl rfl ?_
  refine z_iret rfl rfl ?_
  show zB _ _ _ _ _ _ [_] _ _
  refine z_istore (lv2 := [(4, _), (0, _), (1, _), (2, _), (3, _)]) (pc2 := 7) rfl rfl rfl rfl ?_
  refine z_aload_n (pc2 := 8) rfl rfl rfl ?_
  refine z_iload_n (pc2 := 9) rfl rfl rfl ?_
  refine z_iload_n (pc2 := 10) rfl rfl rfl ?_
  refine z_callV (y2 := 231) (as := [_, _]) (rest := []) (pc2 := 13) rfl rfl rfl rfl t56 rfl ?_
  refine z_inl ?_
  refine z_lv (lv2 := [(0, _), (1, _), (2, _)]) ⟨rfl, rfl, rfl, trivial⟩ ?_
  refine z_iload_n (pc2 := 1) rfl rfl rfl ?_
  refine z_aload_n (pc2 := 2) rfl rfl rfl ?_
  refine z_getP (pc2 := 5) rfl rfl rfl rfl t56 ?_
  intro p2 p2e p2k; replace p2k : p2 = some 73 := p2k; clear p2e; subst p2k
  refine z_aload_n (pc2 := 6) rfl rfl rfl ?_
  refine z_iload_n (pc2 := 7) rfl rfl rfl ?_
  refine z_callV (y2 := 163) (as := [_]) (rest := [_, _]) (pc2 := 10) rfl rfl rfl rfl t56 rfl ?_
  refine z_inl ?_
  refine z_lv (lv2 := [(0, _), (1, _)]) ⟨rfl, rfl, trivial⟩ ?_
  refine z_iconst (pc2 := 1) rfl rfl ?_
  refine z_aload_n (pc2 := 2) rfl rfl rfl ?_
  refine z_getI (pc2 := 5) 0 rfl rfl rfl rfl rfl t56 ?_
  intro v3 e3 r3 k3
  clear e3
  replace k3 : (0 : Int) ≤ v3 ∧ v3 ≤ 1 := k3; clear r3
  refine z_imul (pc2 := 6) rfl rfl ?_
  refine z_iload_n (pc2 := 7) rfl rfl rfl ?_
  refine z_iadd (pc2 := 8) rfl rfl ?_
  refine z_iret rfl rfl ?_
  show zB _ _ _ _ _ _ [_, _, _] _ _
  refine z_iald (pc2 := 11) rfl rfl t73 (by omega) (by omega) (by decide) ?_
  intro v4 e4 r4 k4
  clear e4
  clear k4
  refine z_ineg (pc2 := 12) rfl rfl ?_
  refine z_aload_n (pc2 := 13) rfl rfl rfl ?_
  refine z_getI (pc2 := 16) 0 rfl rfl rfl rfl rfl t56 ?_
  intro v5 e5 r5 k5
  replace k5 : (0 : Int) ≤ v5 ∧ v5 ≤ 42 := k5; clear r5
  replace e5 : S = v5 := by rw [e5]; first | exact hS3 | exact Eq.symm hS3 | (simp [zU]; first | done | exact hS3 | exact Eq.symm hS3 | omega)
  subst e5
  refine z_imulN (pc2 := 17) rfl rfl (fun q6 q6r q6z => ?_)
  refine z_icmp_lt (t := 24) (pc2 := 20) rfl rfl rfl (by omega) (by omega) (fun c7 => ?_) (fun c7 => ?_)
  ·
    refine z_iconst (pc2 := 25) rfl rfl ?_
    refine z_zret rfl rfl (by omega) ?_
    show zB _ _ _ _ _ _ [_] _ _
    refine z_if_ne (t := 64) (pc2 := 16) rfl rfl rfl (by omega) (fun c8 => by exfalso; omega) (fun c8 => ?_)
    refine z_iconst (pc2 := 17) rfl rfl ?_
    refine z_istore (lv2 := [(5, _), (4, _), (0, _), (1, _), (2, _), (3, _)]) (pc2 := 19) rfl rfl rfl rfl ?_
    refine z_lv (lv2 := [(0, _), (4, _), (5, _)]) ⟨rfl, rfl, rfl, trivial⟩ ?_
    exact l_justified1 hT (by omega) (by omega) hL3 hK _ _ _ _ (by omega) (by repeat (first | exact zJu_rf _ | assumption | refine zJu_a ?_ | refine zJu_f ?_ (by decide))) (by omega) (Nat.lt_succ_self _)
  ·
    refine z_iconst (pc2 := 21) rfl rfl ?_
    refine z_goto (pc2 := 25) rfl rfl ?_
    refine z_zret rfl rfl (by omega) ?_
    show zB _ _ _ _ _ _ [_] _ _
    refine z_if_ne (t := 64) (pc2 := 16) rfl rfl rfl (by omega) (fun c9 => ?_) (fun c9 => by exfalso; omega)
    refine z_iload_n (pc2 := 65) rfl rfl rfl ?_
    refine z_if_eq (t := 76) (pc2 := 68) rfl rfl rfl (by omega) (fun c10 => ?_) (fun c10 => ?_)
    ·
      refine z_iconst (pc2 := 77) rfl rfl ?_
      refine z_iret rfl rfl ?_
      exact hK _ _ _ (by omega) (by repeat (first | exact zJu_rf _ | assumption | refine zJu_a ?_ | refine zJu_f ?_ (by decide)))
    ·
      refine z_iload_n (pc2 := 69) rfl rfl rfl ?_
      refine z_if_eq (t := 78) (pc2 := 72) rfl rfl rfl (by omega) (fun c11 => ?_) (fun c11 => ?_)
      ·
        refine z_iload_n (pc2 := 79) rfl rfl rfl ?_
        refine z_if_ge (t := 150) (pc2 := 82) rfl rfl rfl (by omega) (fun c12 => ?_) (fun c12 => ?_)
        ·
          refine z_aload_n (pc2 := 151) rfl rfl rfl ?_
          refine z_getI (pc2 := 154) 0 rfl rfl rfl rfl rfl t56 ?_
          intro v13 e13 r13 k13
          replace k13 : (0 : Int) ≤ v13 ∧ v13 ≤ 126 := k13; clear r13
          replace e13 : H = v13 := by rw [e13]; first | exact hH3 | exact Eq.symm hH3 | (simp [zU]; first | done | exact hH3 | exact Eq.symm hH3 | omega)
          subst e13
          refine z_if_ne (t := 169) (pc2 := 157) rfl rfl rfl (by omega) (fun c14 => ?_) (fun c14 => ?_)
          ·
            refine z_iload_n (pc2 := 170) rfl rfl rfl ?_
            refine z_istore (lv2 := [(5, _), (4, _), (0, _), (1, _), (2, _), (3, _)]) (pc2 := 172) rfl rfl rfl rfl ?_
            refine z_iconst (pc2 := 173) rfl rfl ?_
            refine z_istore (lv2 := [(6, _), (5, _), (4, _), (0, _), (1, _), (2, _), (3, _)]) (pc2 := 175) rfl rfl rfl rfl ?_
            refine z_lv (lv2 := [(0, _), (2, _), (4, _), (5, _), (6, _)]) ⟨rfl, rfl, rfl, rfl, rfl, trivial⟩ ?_
            exact l_justified3 hT (by omega) (by omega) (by omega) (by omega) hL3 hH3 hK _ _ _ _ _ (by omega) (by repeat (first | exact zJu_rf _ | assumption | refine zJu_a ?_ | refine zJu_f ?_ (by decide))) (by omega) (Nat.lt_succ_self _)
          ·
            refine z_aload_n (pc2 := 158) rfl rfl rfl ?_
            refine z_dup (pc2 := 159) rfl rfl rfl ?_
            refine z_getI (pc2 := 162) 0 rfl rfl rfl rfl rfl t56 ?_
            intro v15 e15 r15 k15
            clear e15
            clear k15
            refine z_iconst (pc2 := 163) rfl rfl ?_
            refine z_iadd (pc2 := 164) rfl rfl ?_
            refine z_putI_any (pc2 := 167) rfl rfl rfl rfl rfl rfl t56 (fun _ _ => True.intro) (fun u16 u16r => ?_); clear u16r
            refine z_iconst (pc2 := 168) rfl rfl ?_
            refine z_iret rfl rfl ?_
            exact hK _ _ _ (by omega) (by repeat (first | exact zJu_rf _ | assumption | refine zJu_a ?_ | refine zJu_f ?_ (by decide)))
        ·
          refine z_iload_n (pc2 := 83) rfl rfl rfl ?_
          refine z_aload_n (pc2 := 84) rfl rfl rfl ?_
          refine z_getI (pc2 := 87) 0 rfl rfl rfl rfl rfl t56 ?_
          intro v17 e17 r17 k17
          replace k17 : (0 : Int) ≤ v17 ∧ v17 ≤ 42 := k17; clear r17
          replace e17 : S = v17 := by rw [e17]; first | exact hS3 | exact Eq.symm hS3 | (simp [zU]; first | done | exact hS3 | exact Eq.symm hS3 | omega)
          subst e17
          refine z_irem (pc2 := 88) rfl rfl (z_ne0 (by omega) (by omega)) (fun r18 => ?_)
          refine z_istore (lv2 := [(5, _), (4, _), (0, _), (1, _), (2, _), (3, _)]) (pc2 := 90) rfl rfl rfl rfl ?_
          refine z_iconst (pc2 := 91) rfl rfl ?_
          refine z_istore (lv2 := [(6, _), (5, _), (4, _), (0, _), (1, _), (2, _), (3, _)]) (pc2 := 93) rfl rfl rfl rfl ?_
          refine z_lv (lv2 := [(0, _), (2, _), (5, _), (6, _)]) ⟨rfl, rfl, rfl, rfl, trivial⟩ ?_
          exact l_justified2 hT (by omega) (by omega) (by omega) hL3 hS3 hK _ _ _ _ _ (by omega) (by repeat (first | exact zJu_rf _ | assumption | refine zJu_a ?_ | refine zJu_f ?_ (by decide))) (by omega) (Nat.lt_succ_self _)
      ·
        refine z_iload_n (pc2 := 73) rfl rfl rfl ?_
        refine z_if_le (t := 78) (pc2 := 76) rfl rfl rfl (by omega) (fun c20 => ?_) (fun c20 => ?_)
        ·
          refine z_iload_n (pc2 := 79) rfl rfl rfl ?_
          refine z_if_ge (t := 150) (pc2 := 82) rfl rfl rfl (by omega) (fun c21 => ?_) (fun c21 => ?_)
          ·
            refine z_aload_n (pc2 := 151) rfl rfl rfl ?_
            refine z_getI (pc2 := 154) 0 rfl rfl rfl rfl rfl t56 ?_
            intro v22 e22 r22 k22
            replace k22 : (0 : Int) ≤ v22 ∧ v22 ≤ 126 := k22; clear r22
            replace e22 : H = v22 := by rw [e22]; first | exact hH3 | exact Eq.symm hH3 | (simp [zU]; first | done | exact hH3 | exact Eq.symm hH3 | omega)
            subst e22
            refine z_if_ne (t := 169) (pc2 := 157) rfl rfl rfl (by omega) (fun c23 => ?_) (fun c23 => ?_)
            ·
              refine z_iload_n (pc2 := 170) rfl rfl rfl ?_
              refine z_istore (lv2 := [(5, _), (4, _), (0, _), (1, _), (2, _), (3, _)]) (pc2 := 172) rfl rfl rfl rfl ?_
              refine z_iconst (pc2 := 173) rfl rfl ?_
              refine z_istore (lv2 := [(6, _), (5, _), (4, _), (0, _), (1, _), (2, _), (3, _)]) (pc2 := 175) rfl rfl rfl rfl ?_
              refine z_lv (lv2 := [(0, _), (2, _), (4, _), (5, _), (6, _)]) ⟨rfl, rfl, rfl, rfl, rfl, trivial⟩ ?_
              exact l_justified3 hT (by omega) (by omega) (by omega) (by omega) hL3 hH3 hK _ _ _ _ _ (by omega) (by repeat (first | exact zJu_rf _ | assumption | refine zJu_a ?_ | refine zJu_f ?_ (by decide))) (by omega) (Nat.lt_succ_self _)
            ·
              refine z_aload_n (pc2 := 158) rfl rfl rfl ?_
              refine z_dup (pc2 := 159) rfl rfl rfl ?_
              refine z_getI (pc2 := 162) 0 rfl rfl rfl rfl rfl t56 ?_
              intro v24 e24 r24 k24
              clear e24
              clear k24
              refine z_iconst (pc2 := 163) rfl rfl ?_
              refine z_iadd (pc2 := 164) rfl rfl ?_
              refine z_putI_any (pc2 := 167) rfl rfl rfl rfl rfl rfl t56 (fun _ _ => True.intro) (fun u25 u25r => ?_); clear u25r
              refine z_iconst (pc2 := 168) rfl rfl ?_
              refine z_iret rfl rfl ?_
              exact hK _ _ _ (by omega) (by repeat (first | exact zJu_rf _ | assumption | refine zJu_a ?_ | refine zJu_f ?_ (by decide)))
          ·
            refine z_iload_n (pc2 := 83) rfl rfl rfl ?_
            refine z_aload_n (pc2 := 84) rfl rfl rfl ?_
            refine z_getI (pc2 := 87) 0 rfl rfl rfl rfl rfl t56 ?_
            intro v26 e26 r26 k26
            replace k26 : (0 : Int) ≤ v26 ∧ v26 ≤ 42 := k26; clear r26
            replace e26 : S = v26 := by rw [e26]; first | exact hS3 | exact Eq.symm hS3 | (simp [zU]; first | done | exact hS3 | exact Eq.symm hS3 | omega)
            subst e26
            refine z_irem (pc2 := 88) rfl rfl (z_ne0 (by omega) (by omega)) (fun r27 => ?_)
            refine z_istore (lv2 := [(5, _), (4, _), (0, _), (1, _), (2, _), (3, _)]) (pc2 := 90) rfl rfl rfl rfl ?_
            refine z_iconst (pc2 := 91) rfl rfl ?_
            refine z_istore (lv2 := [(6, _), (5, _), (4, _), (0, _), (1, _), (2, _), (3, _)]) (pc2 := 93) rfl rfl rfl rfl ?_
            refine z_lv (lv2 := [(0, _), (2, _), (5, _), (6, _)]) ⟨rfl, rfl, rfl, rfl, trivial⟩ ?_
            exact l_justified2 hT (by omega) (by omega) (by omega) hL3 hS3 hK _ _ _ _ _ (by omega) (by repeat (first | exact zJu_rf _ | assumption | refine zJu_a ?_ | refine zJu_f ?_ (by decide))) (by omega) (Nat.lt_succ_self _)
        ·
          refine z_iconst (pc2 := 77) rfl rfl ?_
          refine z_iret rfl rfl ?_
          exact hK _ _ _ (by omega) (by repeat (first | exact zJu_rf _ | assumption | refine zJu_a ?_ | refine zJu_f ?_ (by decide)))
