/-! the reference: room, note -/
set_option maxHeartbeats 8000000 in
theorem m_room {L : Nat} {xs : Nat → Int32} {n sl : Nat} {T : Nat → zT} {I : Nat → Nat → Int} {P : Nat → Nat → Option Nat} {G : Nat → Nat → Int} {K : List zV → zH → Prop} {a : Int} (hT : ∀ a, 56 ≤ a → a ≤ 90 → T a = zFix a) (ha : zR a) (hK : ∀ e I2 G2, (0 ≤ a ∧ a ≤ 1 → e = I 56 3 ∧ I2 56 3 = a) → (¬ (0 ≤ a ∧ a ≤ 1) → e = -1 ∧ I2 56 3 = I 56 3) → zRf I I2 → K [.inl e] (n, sl, T, I2, P, G2)) : zX zMd L xs 165 [.inr (.inl (some 56)), .inl a] (n, sl, T, I, P, G) K := by
  have t56 : T 56 = (1, 12, [1]) := hT 56 (by decide) (by decide)
  refine z_inl ?_
  refine z_lv (lv2 := [(0, _), (1, _)]) ⟨rfl, rfl, trivial⟩ ?_
  refine z_iload_n (pc2 := 1) rfl rfl rfl ?_
  refine z_i2l (pc2 := 2) rfl rfl (by omega) ?_
  refine z_lconst 0 (pc2 := 3) rfl rfl rfl ?_
  refine z_lconst 1 (pc2 := 4) rfl rfl rfl ?_
  refine z_callS (y2 := 157) (as := [_, _, _]) (rest := []) (pc2 := 7) rfl rfl rfl rfl ?_
  refine m_in (by omega) (by omega) (by omega) (fun e1 e1a e1b e1c => ?_)
  show zB _ _ _ _ _ _ [_] _ _
  refine z_if_ne (t := 16) (pc2 := 10) rfl rfl rfl (by omega) (fun c2 => ?_) (fun c2 => ?_)
  ·
    refine z_aload_n (pc2 := 17) rfl rfl rfl ?_
    refine z_getI (pc2 := 20) 0 rfl rfl rfl rfl rfl t56 ?_
    intro v3 e3 r3 k3
    replace k3 : (0 : Int) ≤ v3 ∧ v3 ≤ 1 := k3; clear r3
    replace e3 : (I 56 3) = v3 := Eq.symm e3
    subst e3
    refine z_istore_n (lv2 := [(2, _), (0, _), (1, _)]) (pc2 := 21) rfl rfl rfl rfl ?_
    refine z_aload_n (pc2 := 22) rfl rfl rfl ?_
    refine z_iload_n (pc2 := 23) rfl rfl rfl ?_
    refine z_putI (pc2 := 26) rfl rfl rfl rfl rfl rfl t56 (by omega) (by show (0 : Int) ≤ _ ∧ _ ≤ 1; omega) ?_
    refine z_aload_n (pc2 := 27) rfl rfl rfl ?_
    refine z_iload_n (pc2 := 28) rfl rfl rfl ?_
    refine z_callV (y2 := 158) (as := [_]) (rest := []) (pc2 := 31) rfl rfl rfl rfl t56 rfl ?_
    refine z_inl ?_
    refine z_lv (lv2 := [(0, _), (1, _)]) ⟨rfl, rfl, trivial⟩ ?_
    refine z_aload_n (pc2 := 1) rfl rfl rfl ?_
    refine z_iconst (pc2 := 2) rfl rfl ?_
    refine z_putI (pc2 := 5) rfl rfl rfl rfl rfl rfl t56 (by omega) True.intro ?_
    refine z_iload_n (pc2 := 6) rfl rfl rfl ?_
    refine z_iret rfl rfl ?_
    show zB _ _ _ _ _ _ [_] _ _
    refine z_iret rfl rfl ?_
    exact hK _ _ _ (fun h => by first | (exfalso; omega) | exact ⟨rfl, by simp [zU]⟩) (fun h => by first | (exfalso; omega) | exact ⟨rfl, by simp [zU]⟩) (by first | exact zRf_1 | exact zRf_2)
  ·
    refine z_aload_n (pc2 := 11) rfl rfl rfl ?_
    refine z_iconst (pc2 := 12) rfl rfl ?_
    refine z_callV (y2 := 159) (as := [_]) (rest := []) (pc2 := 15) rfl rfl rfl rfl t56 rfl ?_
    refine z_inl ?_
    refine z_lv (lv2 := [(0, _), (1, _)]) ⟨rfl, rfl, trivial⟩ ?_
    refine z_aload_n (pc2 := 1) rfl rfl rfl ?_
    refine z_iload_n (pc2 := 2) rfl rfl rfl ?_
    refine z_putI (pc2 := 5) rfl rfl rfl rfl rfl rfl t56 (by omega) True.intro ?_
    refine z_iload_n (pc2 := 6) rfl rfl rfl ?_
    refine z_iret rfl rfl ?_
    show zB _ _ _ _ _ _ [_] _ _
    refine z_iret rfl rfl ?_
    exact hK _ _ _ (fun h => by first | (exfalso; omega) | exact ⟨rfl, by simp [zU]⟩) (fun h => by first | (exfalso; omega) | exact ⟨rfl, by simp [zU]⟩) (by first | exact zRf_1 | exact zRf_2)
set_option maxHeartbeats 8000000 in
theorem m_note {L : Nat} {xs : Nat → Int32} {n sl : Nat} {T : Nat → zT} {I : Nat → Nat → Int} {P : Nat → Nat → Option Nat} {G : Nat → Nat → Int} {K : List zV → zH → Prop} {a b : Int} (hT : ∀ a, 56 ≤ a → a ≤ 90 → T a = zFix a) (ha : zR a) (hb : zR b) (hK : ∀ e I2 G2, (0 ≤ a ∧ a ≤ 11 ∧ 0 ≤ b ∧ b ≤ 9 → e = I 79 (12 * I 56 3 + a).toNat ∧ I2 79 = zU I 79 (12 * I 56 3 + a).toNat b 79) → (¬ (0 ≤ a ∧ a ≤ 11 ∧ 0 ≤ b ∧ b ≤ 9) → e = -1 ∧ I2 79 = I 79) → zNf I I2 → K [.inl e] (n, sl, T, I2, P, G2)) : zX zMd L xs 210 [.inr (.inl (some 56)), .inl a, .inl b] (n, sl, T, I, P, G) K := by
  have t56 : T 56 = (1, 12, [1]) := hT 56 (by decide) (by decide)
  have t79 : T 79 = (2, 0, [24, 12]) := hT 79 (by decide) (by decide)
  refine z_inl ?_
  refine z_lv (lv2 := [(0, _), (1, _), (2, _)]) ⟨rfl, rfl, rfl, trivial⟩ ?_
  refine z_iload_n (pc2 := 1) rfl rfl rfl ?_
  refine z_callS (y2 := 207) (as := [_]) (rest := []) (pc2 := 4) rfl rfl rfl rfl ?_
  refine z_inl ?_
  refine z_lv (lv2 := [(0, _)]) ⟨rfl, trivial⟩ ?_
  refine z_iload_n (pc2 := 1) rfl rfl rfl ?_
  refine z_i2l (pc2 := 2) rfl rfl (by omega) ?_
  refine z_lconst 0 (pc2 := 3) rfl rfl rfl ?_
  refine z_ldc2 (11) (pc2 := 6) rfl rfl rfl ?_
  refine z_callS (y2 := 157) (as := [_, _, _]) (rest := []) (pc2 := 9) rfl rfl rfl rfl ?_
  refine m_in (by omega) (by omega) (by omega) (fun e1 e1a e1b e1c => ?_)
  show zB _ _ _ _ _ _ [_] _ _
  refine z_zret rfl rfl (by omega) ?_
  show zB _ _ _ _ _ _ [_] _ _
  refine z_if_eq (t := 19) (pc2 := 7) rfl rfl rfl (by omega) (fun c2 => ?_) (fun c2 => ?_)
  ·
    refine z_aload_n (pc2 := 20) rfl rfl rfl ?_
    refine z_iconst (pc2 := 21) rfl rfl ?_
    refine z_callV (y2 := 159) (as := [_]) (rest := []) (pc2 := 24) rfl rfl rfl rfl t56 rfl ?_
    refine z_inl ?_
    refine z_lv (lv2 := [(0, _), (1, _)]) ⟨rfl, rfl, trivial⟩ ?_
    refine z_aload_n (pc2 := 1) rfl rfl rfl ?_
    refine z_iload_n (pc2 := 2) rfl rfl rfl ?_
    refine z_putI (pc2 := 5) rfl rfl rfl rfl rfl rfl t56 (by omega) True.intro ?_
    refine z_iload_n (pc2 := 6) rfl rfl rfl ?_
    refine z_iret rfl rfl ?_
    show zB _ _ _ _ _ _ [_] _ _
    refine z_iret rfl rfl ?_
    exact hK _ _ _ (fun h => by first | (exfalso; omega) | exact ⟨by assumption, zU_row _ _ _ (by decide)⟩) (fun h => by first | (exfalso; omega) | exact ⟨rfl, zU_row _ _ _ (by decide)⟩) (by first | exact zNf_1 | exact zNf_2)
  ·
    refine z_iload_n (pc2 := 8) rfl rfl rfl ?_
    refine z_i2l (pc2 := 9) rfl rfl (by omega) ?_
    refine z_lconst 0 (pc2 := 10) rfl rfl rfl ?_
    refine z_ldc2 (9) (pc2 := 13) rfl rfl rfl ?_
    refine z_callS (y2 := 157) (as := [_, _, _]) (rest := []) (pc2 := 16) rfl rfl rfl rfl ?_
    refine m_in (by omega) (by omega) (by omega) (fun e3 e3a e3b e3c => ?_)
    show zB _ _ _ _ _ _ [_] _ _
    refine z_if_ne (t := 25) (pc2 := 19) rfl rfl rfl (by omega) (fun c4 => ?_) (fun c4 => ?_)
    ·
      refine z_aload_n (pc2 := 26) rfl rfl rfl ?_
      refine z_getP (pc2 := 29) rfl rfl rfl rfl t56 ?_
      intro p5 p5e p5k; replace p5k : p5 = some 79 := p5k; clear p5e; subst p5k
      refine z_bipush (pc2 := 31) rfl rfl (by decide) ?_
      refine z_aload_n (pc2 := 32) rfl rfl rfl ?_
      refine z_getI (pc2 := 35) 0 rfl rfl rfl rfl rfl t56 ?_
      intro v6 e6 r6 k6
      replace k6 : (0 : Int) ≤ v6 ∧ v6 ≤ 1 := k6; clear r6
      replace e6 : (I 56 3) = v6 := Eq.symm e6
      subst e6
      refine z_imul (pc2 := 36) rfl rfl ?_
      refine z_iload_n (pc2 := 37) rfl rfl rfl ?_
      refine z_iadd (pc2 := 38) rfl rfl ?_
      refine z_iald (pc2 := 39) rfl rfl t79 (by omega) (by omega) (by decide) ?_
      intro v7 e7 r7 k7
      replace k7 : (0 : Int) ≤ v7 ∧ v7 ≤ 9 := k7; clear r7
      refine z_istore_n (lv2 := [(3, _), (0, _), (1, _), (2, _)]) (pc2 := 40) rfl rfl rfl rfl ?_
      refine z_aload_n (pc2 := 41) rfl rfl rfl ?_
      refine z_getP (pc2 := 44) rfl rfl rfl rfl t56 ?_
      intro p8 p8e p8k; replace p8k : p8 = some 79 := p8k; clear p8e; subst p8k
      refine z_bipush (pc2 := 46) rfl rfl (by decide) ?_
      refine z_aload_n (pc2 := 47) rfl rfl rfl ?_
      refine z_getI (pc2 := 50) 0 rfl rfl rfl rfl rfl t56 ?_
      intro v9 e9 r9 k9
      replace k9 : (0 : Int) ≤ v9 ∧ v9 ≤ 1 := k9; clear r9
      replace e9 : (I 56 3) = v9 := Eq.symm e9
      subst e9
      refine z_imul (pc2 := 51) rfl rfl ?_
      refine z_iload_n (pc2 := 52) rfl rfl rfl ?_
      refine z_iadd (pc2 := 53) rfl rfl ?_
      refine z_iload_n (pc2 := 54) rfl rfl rfl ?_
      refine z_iast (pc2 := 55) rfl rfl t79 (by omega) (by omega) (by decide) (by omega) (by show (0 : Int) ≤ _ ∧ _ ≤ 9; omega) ?_
      refine z_aload_n (pc2 := 56) rfl rfl rfl ?_
      refine z_iload_n (pc2 := 57) rfl rfl rfl ?_
      refine z_callV (y2 := 158) (as := [_]) (rest := []) (pc2 := 60) rfl rfl rfl rfl t56 rfl ?_
      refine z_inl ?_
      refine z_lv (lv2 := [(0, _), (1, _)]) ⟨rfl, rfl, trivial⟩ ?_
      refine z_aload_n (pc2 := 1) rfl rfl rfl ?_
      refine z_iconst (pc2 := 2) rfl rfl ?_
      refine z_putI (pc2 := 5) rfl rfl rfl rfl rfl rfl t56 (by omega) True.intro ?_
      refine z_iload_n (pc2 := 6) rfl rfl rfl ?_
      refine z_iret rfl rfl ?_
      show zB _ _ _ _ _ _ [_] _ _
      refine z_iret rfl rfl ?_
      exact hK _ _ _ (fun h => by first | (exfalso; omega) | exact ⟨by assumption, zU_row _ _ _ (by decide)⟩) (fun h => by first | (exfalso; omega) | exact ⟨rfl, zU_row _ _ _ (by decide)⟩) (by first | exact zNf_1 | exact zNf_2)
    ·
      refine z_aload_n (pc2 := 20) rfl rfl rfl ?_
      refine z_iconst (pc2 := 21) rfl rfl ?_
      refine z_callV (y2 := 159) (as := [_]) (rest := []) (pc2 := 24) rfl rfl rfl rfl t56 rfl ?_
      refine z_inl ?_
      refine z_lv (lv2 := [(0, _), (1, _)]) ⟨rfl, rfl, trivial⟩ ?_
      refine z_aload_n (pc2 := 1) rfl rfl rfl ?_
      refine z_iload_n (pc2 := 2) rfl rfl rfl ?_
      refine z_putI (pc2 := 5) rfl rfl rfl rfl rfl rfl t56 (by omega) True.intro ?_
      refine z_iload_n (pc2 := 6) rfl rfl rfl ?_
      refine z_iret rfl rfl ?_
      show zB _ _ _ _ _ _ [_] _ _
      refine z_iret rfl rfl ?_
      exact hK _ _ _ (fun h => by first | (exfalso; omega) | exact ⟨by assumption, zU_row _ _ _ (by decide)⟩) (fun h => by first | (exfalso; omega) | exact ⟨rfl, zU_row _ _ _ (by decide)⟩) (by first | exact zNf_1 | exact zNf_2)
