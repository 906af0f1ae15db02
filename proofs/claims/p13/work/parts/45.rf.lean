/-! the reference: what sorts tell -/
set_option maxHeartbeats 8000000 in
theorem m_firstLetter {L : Nat} {xs : Nat → Int32} {n sl : Nat} {T : Nat → zT} {I : Nat → Nat → Int} {P : Nat → Nat → Option Nat} {G : Nat → Nat → Int} {K : List zV → zH → Prop} {p : Int} (hT : ∀ a, 56 ≤ a → a ≤ 90 → T a = zFix a) (hp0 : 0 ≤ p ∧ p ≤ 255) (hp1 : zPt p) (hK : ∀ e, 0 ≤ e ∧ e ≤ 23 → K [.inl e] (n, sl, T, I, P, G)) : zX zMd L xs 187 [.inr (.inl (some 56)), .inl p] (n, sl, T, I, P, G) K := by
  have t56 : T 56 = (1, 12, [1]) := hT 56 (by decide) (by decide)
  have t66 : T 66 = (2, 0, [48, 4]) := hT 66 (by decide) (by decide)
  refine z_inl ?_
  refine z_lv (lv2 := [(0, _), (1, _)]) ⟨rfl, rfl, trivial⟩ ?_
  refine z_iload_n (pc2 := 1) rfl rfl rfl ?_
  refine z_callS (y2 := 179) (as := [_]) (rest := []) (pc2 := 4) rfl rfl rfl rfl ?_
  refine z_inl ?_
  refine z_lv (lv2 := [(0, _)]) ⟨rfl, trivial⟩ ?_
  refine z_iload_n (pc2 := 1) rfl rfl rfl ?_
  refine z_iconst (pc2 := 2) rfl rfl ?_
  refine z_and_1 (pc2 := 3) rfl rfl ?_
  refine z_iconst (pc2 := 4) rfl rfl ?_
  refine z_icmp_ne (t := 11) (pc2 := 7) rfl rfl rfl (by omega) (by omega) (fun c2 => ?_) (fun c2 => ?_)
  ·
    refine z_iconst (pc2 := 12) rfl rfl ?_
    refine z_zret rfl rfl (by omega) ?_
    show zB _ _ _ _ _ _ [_] _ _
    refine z_if_eq (t := 31) (pc2 := 7) rfl rfl rfl (by omega) (fun c3 => ?_) (fun c3 => by exfalso; omega)
    refine z_iload_n (pc2 := 32) rfl rfl rfl ?_
    refine z_callS (y2 := 178) (as := [_]) (rest := []) (pc2 := 35) rfl rfl rfl rfl ?_
    refine z_inl ?_
    refine z_lv (lv2 := [(0, _)]) ⟨rfl, trivial⟩ ?_
    refine z_iload_n (pc2 := 1) rfl rfl rfl ?_
    refine z_iconst (pc2 := 2) rfl rfl ?_
    refine z_shr_3 (pc2 := 3) rfl rfl (by omega) ?_
    refine z_iret rfl rfl ?_
    show zB _ _ _ _ _ _ [_] _ _
    refine z_iret rfl rfl ?_
    exact hK _ (by omega)
  ·
    refine z_iconst (pc2 := 8) rfl rfl ?_
    refine z_goto (pc2 := 12) rfl rfl ?_
    refine z_zret rfl rfl (by omega) ?_
    show zB _ _ _ _ _ _ [_] _ _
    refine z_if_eq (t := 31) (pc2 := 7) rfl rfl rfl (by omega) (fun c5 => by exfalso; omega) (fun c5 => ?_)
    refine z_aload_n (pc2 := 8) rfl rfl rfl ?_
    refine z_getP (pc2 := 11) rfl rfl rfl rfl t56 ?_
    intro p6 p6e p6k; replace p6k : p6 = some 66 := p6k; clear p6e; subst p6k
    refine z_bipush (pc2 := 13) rfl rfl (by decide) ?_
    refine z_aload_n (pc2 := 14) rfl rfl rfl ?_
    refine z_iload_n (pc2 := 15) rfl rfl rfl ?_
    refine z_callS (y2 := 177) (as := [_]) (rest := [_, _, _]) (pc2 := 18) rfl rfl rfl rfl ?_
    refine z_inl ?_
    refine z_lv (lv2 := [(0, _)]) ⟨rfl, trivial⟩ ?_
    refine z_iload_n (pc2 := 1) rfl rfl rfl ?_
    refine z_iconst (pc2 := 2) rfl rfl ?_
    refine z_shr_1 (pc2 := 3) rfl rfl (by omega) ?_
    refine z_iconst (pc2 := 4) rfl rfl ?_
    refine z_and_3 (pc2 := 5) rfl rfl ?_
    refine z_iret rfl rfl ?_
    show zB _ _ _ _ _ _ [_, _, _, _] _ _
    refine z_callV (y2 := 163) (as := [_]) (rest := [_, _]) (pc2 := 21) rfl rfl rfl rfl t56 rfl ?_
    refine z_inl ?_
    refine z_lv (lv2 := [(0, _), (1, _)]) ⟨rfl, rfl, trivial⟩ ?_
    refine z_iconst (pc2 := 1) rfl rfl ?_
    refine z_aload_n (pc2 := 2) rfl rfl rfl ?_
    refine z_getI (pc2 := 5) 0 rfl rfl rfl rfl rfl t56 ?_
    intro v9 e9 r9 k9
    clear e9
    replace k9 : (0 : Int) ≤ v9 ∧ v9 ≤ 1 := k9; clear r9
    refine z_imul (pc2 := 6) rfl rfl ?_
    refine z_iload_n (pc2 := 7) rfl rfl rfl ?_
    refine z_iadd (pc2 := 8) rfl rfl ?_
    refine z_iret rfl rfl ?_
    show zB _ _ _ _ _ _ [_, _, _] _ _
    refine z_imul (pc2 := 22) rfl rfl ?_
    refine z_iload_n (pc2 := 23) rfl rfl rfl ?_
    refine z_callS (y2 := 178) (as := [_]) (rest := [_, _]) (pc2 := 26) rfl rfl rfl rfl ?_
    refine z_inl ?_
    refine z_lv (lv2 := [(0, _)]) ⟨rfl, trivial⟩ ?_
    refine z_iload_n (pc2 := 1) rfl rfl rfl ?_
    refine z_iconst (pc2 := 2) rfl rfl ?_
    refine z_shr_3 (pc2 := 3) rfl rfl (by omega) ?_
    refine z_iret rfl rfl ?_
    show zB _ _ _ _ _ _ [_, _, _] _ _
    refine z_iadd (pc2 := 27) rfl rfl ?_
    refine z_iald (pc2 := 28) rfl rfl t66 (by omega) (by omega) (by decide) ?_
    intro v11 e11 r11 k11
    clear e11
    replace k11 : (0 : Int) ≤ v11 ∧ v11 ≤ 23 := k11; clear r11
    refine z_goto (pc2 := 35) rfl rfl ?_
    refine z_iret rfl rfl ?_
    exact hK _ (by omega)
set_option maxHeartbeats 8000000 in
theorem m_lastLetter {L : Nat} {xs : Nat → Int32} {n sl : Nat} {T : Nat → zT} {I : Nat → Nat → Int} {P : Nat → Nat → Option Nat} {G : Nat → Nat → Int} {K : List zV → zH → Prop} {p : Int} (hT : ∀ a, 56 ≤ a → a ≤ 90 → T a = zFix a) (hp0 : 0 ≤ p ∧ p ≤ 255) (hp1 : zPt p) (hK : ∀ e, 0 ≤ e ∧ e ≤ 23 → K [.inl e] (n, sl, T, I, P, G)) : zX zMd L xs 188 [.inr (.inl (some 56)), .inl p] (n, sl, T, I, P, G) K := by
  have t56 : T 56 = (1, 12, [1]) := hT 56 (by decide) (by decide)
  have t67 : T 67 = (2, 0, [48, 4]) := hT 67 (by decide) (by decide)
  have t68 : T 68 = (2, 0, [48, 5]) := hT 68 (by decide) (by decide)
  refine z_inl ?_
  refine z_lv (lv2 := [(0, _), (1, _)]) ⟨rfl, rfl, trivial⟩ ?_
  refine z_bipush (pc2 := 2) rfl rfl (by decide) ?_
  refine z_aload_n (pc2 := 3) rfl rfl rfl ?_
  refine z_iload_n (pc2 := 4) rfl rfl rfl ?_
  refine z_callS (y2 := 177) (as := [_]) (rest := [_, _]) (pc2 := 7) rfl rfl rfl rfl ?_
  refine z_inl ?_
  refine z_lv (lv2 := [(0, _)]) ⟨rfl, trivial⟩ ?_
  refine z_iload_n (pc2 := 1) rfl rfl rfl ?_
  refine z_iconst (pc2 := 2) rfl rfl ?_
  refine z_shr_1 (pc2 := 3) rfl rfl (by omega) ?_
  refine z_iconst (pc2 := 4) rfl rfl ?_
  refine z_and_3 (pc2 := 5) rfl rfl ?_
  refine z_iret rfl rfl ?_
  show zB _ _ _ _ _ _ [_, _, _] _ _
  refine z_callV (y2 := 163) (as := [_]) (rest := [_]) (pc2 := 10) rfl rfl rfl rfl t56 rfl ?_
  refine z_inl ?_
  refine z_lv (lv2 := [(0, _), (1, _)]) ⟨rfl, rfl, trivial⟩ ?_
  refine z_iconst (pc2 := 1) rfl rfl ?_
  refine z_aload_n (pc2 := 2) rfl rfl rfl ?_
  refine z_getI (pc2 := 5) 0 rfl rfl rfl rfl rfl t56 ?_
  intro v3 e3 r3 k3
  clear e3
  replace k3 : (0 : Int) ≤ v3 ∧ v3 ≤ 1 := k3; clear r3
  refine z_imul (pc2 := 6) rfl rfl ?_
  refine z_iload_n (pc2 := 7) rfl rfl rfl ?_
  refine z_iadd (pc2 := 8) rfl rfl ?_
  refine z_iret rfl rfl ?_
  show zB _ _ _ _ _ _ [_, _] _ _
  refine z_imul (pc2 := 11) rfl rfl ?_
  refine z_iload_n (pc2 := 12) rfl rfl rfl ?_
  refine z_callS (y2 := 178) (as := [_]) (rest := [_]) (pc2 := 15) rfl rfl rfl rfl ?_
  refine z_inl ?_
  refine z_lv (lv2 := [(0, _)]) ⟨rfl, trivial⟩ ?_
  refine z_iload_n (pc2 := 1) rfl rfl rfl ?_
  refine z_iconst (pc2 := 2) rfl rfl ?_
  refine z_shr_3 (pc2 := 3) rfl rfl (by omega) ?_
  refine z_iret rfl rfl ?_
  show zB _ _ _ _ _ _ [_, _] _ _
  refine z_iadd (pc2 := 16) rfl rfl ?_
  refine z_istore_n (lv2 := [(2, _), (0, _), (1, _)]) (pc2 := 17) rfl rfl rfl rfl ?_
  refine z_iload_n (pc2 := 18) rfl rfl rfl ?_
  refine z_callS (y2 := 179) (as := [_]) (rest := []) (pc2 := 21) rfl rfl rfl rfl ?_
  refine z_inl ?_
  refine z_lv (lv2 := [(0, _)]) ⟨rfl, trivial⟩ ?_
  refine z_iload_n (pc2 := 1) rfl rfl rfl ?_
  refine z_iconst (pc2 := 2) rfl rfl ?_
  refine z_and_1 (pc2 := 3) rfl rfl ?_
  refine z_iconst (pc2 := 4) rfl rfl ?_
  refine z_icmp_ne (t := 11) (pc2 := 7) rfl rfl rfl (by omega) (by omega) (fun c6 => ?_) (fun c6 => ?_)
  ·
    refine z_iconst (pc2 := 12) rfl rfl ?_
    refine z_zret rfl rfl (by omega) ?_
    show zB _ _ _ _ _ _ [_] _ _
    refine z_if_ne (t := 31) (pc2 := 24) rfl rfl rfl (by omega) (fun c7 => by exfalso; omega) (fun c7 => ?_)
    refine z_iload_n (pc2 := 25) rfl rfl rfl ?_
    refine z_callS (y2 := 178) (as := [_]) (rest := []) (pc2 := 28) rfl rfl rfl rfl ?_
    refine z_inl ?_
    refine z_lv (lv2 := [(0, _)]) ⟨rfl, trivial⟩ ?_
    refine z_iload_n (pc2 := 1) rfl rfl rfl ?_
    refine z_iconst (pc2 := 2) rfl rfl ?_
    refine z_shr_3 (pc2 := 3) rfl rfl (by omega) ?_
    refine z_iret rfl rfl ?_
    show zB _ _ _ _ _ _ [_] _ _
    refine z_goto (pc2 := 55) rfl rfl ?_
    refine z_iret rfl rfl ?_
    exact hK _ (by omega)
  ·
    refine z_iconst (pc2 := 8) rfl rfl ?_
    refine z_goto (pc2 := 12) rfl rfl ?_
    refine z_zret rfl rfl (by omega) ?_
    show zB _ _ _ _ _ _ [_] _ _
    refine z_if_ne (t := 31) (pc2 := 24) rfl rfl rfl (by omega) (fun c9 => ?_) (fun c9 => by exfalso; omega)
    refine z_aload_n (pc2 := 32) rfl rfl rfl ?_
    refine z_getP (pc2 := 35) rfl rfl rfl rfl t56 ?_
    intro p10 p10e p10k; replace p10k : p10 = some 68 := p10k; clear p10e; subst p10k
    refine z_iload_n (pc2 := 36) rfl rfl rfl ?_
    refine z_iald (pc2 := 37) rfl rfl t68 (by omega) (by omega) (by decide) ?_
    intro v11 e11 r11 k11
    replace k11 : (-1 : Int) ≤ v11 ∧ v11 ≤ 23 := k11; clear r11
    refine z_if_ge (t := 49) (pc2 := 40) rfl rfl rfl (by omega) (fun c12 => ?_) (fun c12 => ?_)
    ·
      refine z_aload_n (pc2 := 50) rfl rfl rfl ?_
      refine z_getP (pc2 := 53) rfl rfl rfl rfl t56 ?_
      intro p13 p13e p13k; replace p13k : p13 = some 68 := p13k; clear p13e; subst p13k
      refine z_iload_n (pc2 := 54) rfl rfl rfl ?_
      refine z_iald (pc2 := 55) rfl rfl t68 (by omega) (by omega) (by decide) ?_
      intro v14 e14 r14 k14
      replace k14 : (-1 : Int) ≤ v14 ∧ v14 ≤ 23 := k14; clear r14
      replace e14 : v11 = v14 := by rw [e14]; first | exact e11 | exact Eq.symm e11 | (simp [zU]; first | done | exact e11 | exact Eq.symm e11 | omega)
      subst e14
      refine z_iret rfl rfl ?_
      exact hK _ (by omega)
    ·
      refine z_aload_n (pc2 := 41) rfl rfl rfl ?_
      refine z_getP (pc2 := 44) rfl rfl rfl rfl t56 ?_
      intro p15 p15e p15k; replace p15k : p15 = some 67 := p15k; clear p15e; subst p15k
      refine z_iload_n (pc2 := 45) rfl rfl rfl ?_
      refine z_iald (pc2 := 46) rfl rfl t67 (by omega) (by omega) (by decide) ?_
      intro v16 e16 r16 k16
      clear e16
      replace k16 : (0 : Int) ≤ v16 ∧ v16 ≤ 23 := k16; clear r16
      refine z_goto (pc2 := 55) rfl rfl ?_
      refine z_iret rfl rfl ?_
      exact hK _ (by omega)
set_option maxHeartbeats 8000000 in
theorem m_widthOfLetter {L : Nat} {xs : Nat → Int32} {n sl : Nat} {T : Nat → zT} {I : Nat → Nat → Int} {P : Nat → Nat → Option Nat} {G : Nat → Nat → Int} {K : List zV → zH → Prop} {p : Int} (hT : ∀ a, 56 ≤ a → a ≤ 90 → T a = zFix a) (hp0 : 0 ≤ p ∧ p ≤ 255) (hp1 : zPt p) (hK : ∀ e, zR e → K [.inl e] (n, sl, T, I, P, G)) : zX zMd L xs 190 [.inr (.inl (some 56)), .inl p] (n, sl, T, I, P, G) K := by
  have t56 : T 56 = (1, 12, [1]) := hT 56 (by decide) (by decide)
  have t62 : T 62 = (2, 0, [192, 0]) := hT 62 (by decide) (by decide)
  have t69 : T 69 = (2, 0, [48, 0]) := hT 69 (by decide) (by decide)
  refine z_inl ?_
  refine z_lv (lv2 := [(0, _), (1, _)]) ⟨rfl, rfl, trivial⟩ ?_
  refine z_aload_n (pc2 := 1) rfl rfl rfl ?_
  refine z_iload_n (pc2 := 2) rfl rfl rfl ?_
  refine z_callS (y2 := 177) (as := [_]) (rest := [_]) (pc2 := 5) rfl rfl rfl rfl ?_
  refine z_inl ?_
  refine z_lv (lv2 := [(0, _)]) ⟨rfl, trivial⟩ ?_
  refine z_iload_n (pc2 := 1) rfl rfl rfl ?_
  refine z_iconst (pc2 := 2) rfl rfl ?_
  refine z_shr_1 (pc2 := 3) rfl rfl (by omega) ?_
  refine z_iconst (pc2 := 4) rfl rfl ?_
  refine z_and_3 (pc2 := 5) rfl rfl ?_
  refine z_iret rfl rfl ?_
  show zB _ _ _ _ _ _ [_, _] _ _
  refine z_callV (y2 := 163) (as := [_]) (rest := []) (pc2 := 8) rfl rfl rfl rfl t56 rfl ?_
  refine z_inl ?_
  refine z_lv (lv2 := [(0, _), (1, _)]) ⟨rfl, rfl, trivial⟩ ?_
  refine z_iconst (pc2 := 1) rfl rfl ?_
  refine z_aload_n (pc2 := 2) rfl rfl rfl ?_
  refine z_getI (pc2 := 5) 0 rfl rfl rfl rfl rfl t56 ?_
  intro v3 e3 r3 k3
  clear e3
  replace k3 : (0 : Int) ≤ v3 ∧ v3 ≤ 1 := k3; clear r3
  refine z_imul (pc2 := 6) rfl rfl ?_
  refine z_iload_n (pc2 := 7) rfl rfl rfl ?_
  refine z_iadd (pc2 := 8) rfl rfl ?_
  refine z_iret rfl rfl ?_
  show zB _ _ _ _ _ _ [_] _ _
  refine z_istore_n (lv2 := [(2, _), (0, _), (1, _)]) (pc2 := 9) rfl rfl rfl rfl ?_
  refine z_iload_n (pc2 := 10) rfl rfl rfl ?_
  refine z_callS (y2 := 179) (as := [_]) (rest := []) (pc2 := 13) rfl rfl rfl rfl ?_
  refine z_inl ?_
  refine z_lv (lv2 := [(0, _)]) ⟨rfl, trivial⟩ ?_
  refine z_iload_n (pc2 := 1) rfl rfl rfl ?_
  refine z_iconst (pc2 := 2) rfl rfl ?_
  refine z_and_1 (pc2 := 3) rfl rfl ?_
  refine z_iconst (pc2 := 4) rfl rfl ?_
  refine z_icmp_ne (t := 11) (pc2 := 7) rfl rfl rfl (by omega) (by omega) (fun c5 => ?_) (fun c5 => ?_)
  ·
    refine z_iconst (pc2 := 12) rfl rfl ?_
    refine z_zret rfl rfl (by omega) ?_
    show zB _ _ _ _ _ _ [_] _ _
    refine z_if_eq (t := 33) (pc2 := 16) rfl rfl rfl (by omega) (fun c6 => ?_) (fun c6 => by exfalso; omega)
    refine z_aload_n (pc2 := 34) rfl rfl rfl ?_
    refine z_getP (pc2 := 37) rfl rfl rfl rfl t56 ?_
    intro p7 p7e p7k; replace p7k : p7 = some 62 := p7k; clear p7e; subst p7k
    refine z_bipush (pc2 := 39) rfl rfl (by decide) ?_
    refine z_iload_n (pc2 := 40) rfl rfl rfl ?_
    refine z_imul (pc2 := 41) rfl rfl ?_
    refine z_iload_n (pc2 := 42) rfl rfl rfl ?_
    refine z_callS (y2 := 178) (as := [_]) (rest := [_, _]) (pc2 := 45) rfl rfl rfl rfl ?_
    refine z_inl ?_
    refine z_lv (lv2 := [(0, _)]) ⟨rfl, trivial⟩ ?_
    refine z_iload_n (pc2 := 1) rfl rfl rfl ?_
    refine z_iconst (pc2 := 2) rfl rfl ?_
    refine z_shr_3 (pc2 := 3) rfl rfl (by omega) ?_
    refine z_iret rfl rfl ?_
    show zB _ _ _ _ _ _ [_, _, _] _ _
    refine z_iadd (pc2 := 46) rfl rfl ?_
    refine z_iald (pc2 := 47) rfl rfl t62 (by omega) (by omega) (by decide) ?_
    intro v9 e9 r9 k9
    clear e9
    clear k9
    refine z_iret rfl rfl ?_
    exact hK _ (by omega)
  ·
    refine z_iconst (pc2 := 8) rfl rfl ?_
    refine z_goto (pc2 := 12) rfl rfl ?_
    refine z_zret rfl rfl (by omega) ?_
    show zB _ _ _ _ _ _ [_] _ _
    refine z_if_eq (t := 33) (pc2 := 16) rfl rfl rfl (by omega) (fun c10 => by exfalso; omega) (fun c10 => ?_)
    refine z_aload_n (pc2 := 17) rfl rfl rfl ?_
    refine z_getP (pc2 := 20) rfl rfl rfl rfl t56 ?_
    intro p11 p11e p11k; replace p11k : p11 = some 69 := p11k; clear p11e; subst p11k
    refine z_bipush (pc2 := 22) rfl rfl (by decide) ?_
    refine z_iload_n (pc2 := 23) rfl rfl rfl ?_
    refine z_imul (pc2 := 24) rfl rfl ?_
    refine z_iload_n (pc2 := 25) rfl rfl rfl ?_
    refine z_callS (y2 := 178) (as := [_]) (rest := [_, _]) (pc2 := 28) rfl rfl rfl rfl ?_
    refine z_inl ?_
    refine z_lv (lv2 := [(0, _)]) ⟨rfl, trivial⟩ ?_
    refine z_iload_n (pc2 := 1) rfl rfl rfl ?_
    refine z_iconst (pc2 := 2) rfl rfl ?_
    refine z_shr_3 (pc2 := 3) rfl rfl (by omega) ?_
    refine z_iret rfl rfl ?_
    show zB _ _ _ _ _ _ [_, _, _] _ _
    refine z_iadd (pc2 := 29) rfl rfl ?_
    refine z_iald (pc2 := 30) rfl rfl t69 (by omega) (by omega) (by decide) ?_
    intro v13 e13 r13 k13
    clear e13
    clear k13
    refine z_goto (pc2 := 47) rfl rfl ?_
    refine z_iret rfl rfl ?_
    exact hK _ (by omega)
set_option maxHeartbeats 8000000 in
theorem m_widthOf {L : Nat} {xs : Nat → Int32} {n sl : Nat} {T : Nat → zT} {I : Nat → Nat → Int} {P : Nat → Nat → Option Nat} {G : Nat → Nat → Int} {K : List zV → zH → Prop} {s : Int} (hT : ∀ a, 56 ≤ a → a ≤ 90 → T a = zFix a) (hs : zR s) (hg : zGd s) (hK : ∀ e, K [.inl e] (n, sl, T, I, P, G)) : zX zMd L xs 191 [.inr (.inl (some 56)), .inl s] (n, sl, T, I, P, G) K := by
  have t56 : T 56 = (1, 12, [1]) := hT 56 (by decide) (by decide)
  have t70 : T 70 = (2, 0, [32, 0]) := hT 70 (by decide) (by decide)
  have t71 : T 71 = (2, 0, [8, 0]) := hT 71 (by decide) (by decide)
  have hg' := hg
  unfold zGd at hg'
  refine z_inl ?_
  refine z_lv (lv2 := [(0, _), (1, _)]) ⟨rfl, rfl, trivial⟩ ?_
  refine z_iload_n (pc2 := 1) rfl rfl rfl ?_
  refine z_callS (y2 := 172) (as := [_]) (rest := []) (pc2 := 4) rfl rfl rfl rfl ?_
  refine z_inl ?_
  refine z_lv (lv2 := [(0, _)]) ⟨rfl, trivial⟩ ?_
  refine z_iload_n (pc2 := 1) rfl rfl rfl ?_
  refine z_bipush (pc2 := 3) rfl rfl (by decide) ?_
  refine z_and_7 (pc2 := 4) rfl rfl ?_
  refine z_iconst (pc2 := 5) rfl rfl ?_
  refine z_isub (pc2 := 6) rfl rfl ?_
  refine z_iret rfl rfl ?_
  show zB _ _ _ _ _ _ [_] _ _
  refine z_istore_n (lv2 := [(2, _), (0, _), (1, _)]) (pc2 := 5) rfl rfl rfl rfl ?_
  refine z_aload_n (pc2 := 6) rfl rfl rfl ?_
  refine z_iload_n (pc2 := 7) rfl rfl rfl ?_
  refine z_callS (y2 := 173) (as := [_]) (rest := [_]) (pc2 := 10) rfl rfl rfl rfl ?_
  refine z_inl ?_
  refine z_lv (lv2 := [(0, _)]) ⟨rfl, trivial⟩ ?_
  refine z_iload_n (pc2 := 1) rfl rfl rfl ?_
  refine z_iconst (pc2 := 2) rfl rfl ?_
  refine z_shr_3 (pc2 := 3) rfl rfl (by omega) ?_
  refine z_sipush (pc2 := 6) rfl rfl (by decide) ?_
  refine z_and_255 (pc2 := 7) rfl rfl ?_
  refine z_iret rfl rfl ?_
  show zB _ _ _ _ _ _ [_, _] _ _
  refine z_callS (y2 := 177) (as := [_]) (rest := [_]) (pc2 := 13) rfl rfl rfl rfl ?_
  refine z_inl ?_
  refine z_lv (lv2 := [(0, _)]) ⟨rfl, trivial⟩ ?_
  refine z_iload_n (pc2 := 1) rfl rfl rfl ?_
  refine z_iconst (pc2 := 2) rfl rfl ?_
  refine z_shr_1 (pc2 := 3) rfl rfl (by omega) ?_
  refine z_iconst (pc2 := 4) rfl rfl ?_
  refine z_and_3 (pc2 := 5) rfl rfl ?_
  refine z_iret rfl rfl ?_
  show zB _ _ _ _ _ _ [_, _] _ _
  refine z_callV (y2 := 163) (as := [_]) (rest := []) (pc2 := 16) rfl rfl rfl rfl t56 rfl ?_
  refine z_inl ?_
  refine z_lv (lv2 := [(0, _), (1, _)]) ⟨rfl, rfl, trivial⟩ ?_
  refine z_iconst (pc2 := 1) rfl rfl ?_
  refine z_aload_n (pc2 := 2) rfl rfl rfl ?_
  refine z_getI (pc2 := 5) 0 rfl rfl rfl rfl rfl t56 ?_
  intro v6 e6 r6 k6
  clear e6
  replace k6 : (0 : Int) ≤ v6 ∧ v6 ≤ 1 := k6; clear r6
  refine z_imul (pc2 := 6) rfl rfl ?_
  refine z_iload_n (pc2 := 7) rfl rfl rfl ?_
  refine z_iadd (pc2 := 8) rfl rfl ?_
  refine z_iret rfl rfl ?_
  show zB _ _ _ _ _ _ [_] _ _
  refine z_istore_n (lv2 := [(3, _), (2, _), (0, _), (1, _)]) (pc2 := 17) rfl rfl rfl rfl ?_
  refine z_iload_n (pc2 := 18) rfl rfl rfl ?_
  refine z_iconst (pc2 := 19) rfl rfl ?_
  refine z_icmp_eq (t := 27) (pc2 := 22) rfl rfl rfl (by omega) (by omega) (fun c7 => ?_) (fun c7 => ?_)
  ·
    refine z_iload_n (pc2 := 28) rfl rfl rfl ?_
    refine z_iconst (pc2 := 29) rfl rfl ?_
    refine z_icmp_ne (t := 41) (pc2 := 32) rfl rfl rfl (by omega) (by omega) (fun c8 => by exfalso; omega) (fun c8 => ?_)
    refine z_aload_n (pc2 := 33) rfl rfl rfl ?_
    refine z_getP (pc2 := 36) rfl rfl rfl rfl t56 ?_
    intro p9 p9e p9k; replace p9k : p9 = some 71 := p9k; clear p9e; subst p9k
    refine z_iload_n (pc2 := 37) rfl rfl rfl ?_
    refine z_iald (pc2 := 38) rfl rfl t71 (by omega) (by omega) (by decide) ?_
    intro v10 e10 r10 k10
    clear e10
    clear k10
    refine z_goto (pc2 := 42) rfl rfl ?_
    refine z_iload_n (pc2 := 43) rfl rfl rfl ?_
    refine z_callS (y2 := 175) (as := [_]) (rest := [_]) (pc2 := 46) rfl rfl rfl rfl ?_
    refine z_inl ?_
    refine z_lv (lv2 := [(0, _)]) ⟨rfl, trivial⟩ ?_
    refine z_iload_n (pc2 := 1) rfl rfl rfl ?_
    refine z_bipush (pc2 := 3) rfl rfl (by decide) ?_
    refine z_shr_19 (pc2 := 4) rfl rfl (by omega) ?_
    refine z_sipush (pc2 := 7) rfl rfl (by decide) ?_
    refine z_isub (pc2 := 8) rfl rfl ?_
    refine z_iret rfl rfl ?_
    show zB _ _ _ _ _ _ [_, _] _ _
    refine z_iadd (pc2 := 47) rfl rfl ?_
    refine z_iret rfl rfl ?_
    exact hK _
  ·
    refine z_iload_n (pc2 := 23) rfl rfl rfl ?_
    refine z_iconst (pc2 := 24) rfl rfl ?_
    refine z_icmp_ne (t := 48) (pc2 := 27) rfl rfl rfl (by omega) (by omega) (fun c12 => ?_) (fun c12 => ?_)
    ·
      refine z_iload_n (pc2 := 49) rfl rfl rfl ?_
      refine z_iconst (pc2 := 50) rfl rfl ?_
      refine z_icmp_ne (t := 70) (pc2 := 53) rfl rfl rfl (by omega) (by omega) (fun c13 => ?_) (fun c13 => ?_)
      ·
        refine z_aload_n (pc2 := 71) rfl rfl rfl ?_
        refine z_iload_n (pc2 := 72) rfl rfl rfl ?_
        refine z_callS (y2 := 173) (as := [_]) (rest := [_]) (pc2 := 75) rfl rfl rfl rfl ?_
        refine z_inl ?_
        refine z_lv (lv2 := [(0, _)]) ⟨rfl, trivial⟩ ?_
        refine z_iload_n (pc2 := 1) rfl rfl rfl ?_
        refine z_iconst (pc2 := 2) rfl rfl ?_
        refine z_shr_3 (pc2 := 3) rfl rfl (by omega) ?_
        refine z_sipush (pc2 := 6) rfl rfl (by decide) ?_
        refine z_and_255 (pc2 := 7) rfl rfl ?_
        refine z_iret rfl rfl ?_
        show zB _ _ _ _ _ _ [_, _] _ _
        refine z_callV (y2 := 190) (as := [_]) (rest := []) (pc2 := 78) rfl rfl rfl rfl t56 rfl ?_
        refine m_widthOfLetter hT (by omega) (by first | assumption | (refine ⟨?_, ?_⟩ <;> omega)) (fun w16 w16r => ?_)
        show zB _ _ _ _ _ _ [_] _ _
        refine z_istore (lv2 := [(4, _), (3, _), (2, _), (0, _), (1, _)]) (pc2 := 80) rfl rfl rfl rfl ?_
        refine z_iload_n (pc2 := 81) rfl rfl rfl ?_
        refine z_iconst (pc2 := 82) rfl rfl ?_
        refine z_icmp_ne (t := 96) (pc2 := 85) rfl rfl rfl (by omega) (by omega) (fun c17 => ?_) (fun c17 => ?_)
        ·
          refine z_iload (pc2 := 98) rfl rfl rfl ?_
          refine z_istore (lv2 := [(5, _), (4, _), (3, _), (2, _), (0, _), (1, _)]) (pc2 := 100) rfl rfl rfl rfl ?_
          refine z_iload (pc2 := 102) rfl rfl rfl ?_
          refine z_iload (pc2 := 104) rfl rfl rfl ?_
          refine z_icmp_le (t := 112) (pc2 := 107) rfl rfl rfl (by omega) (by omega) (fun c18 => ?_) (fun c18 => by exfalso; omega)
          refine z_iload (pc2 := 114) rfl rfl rfl ?_
          refine z_iret rfl rfl ?_
          exact hK _
        ·
          refine z_aload_n (pc2 := 86) rfl rfl rfl ?_
          refine z_iload_n (pc2 := 87) rfl rfl rfl ?_
          refine z_callS (y2 := 174) (as := [_]) (rest := [_]) (pc2 := 90) rfl rfl rfl rfl ?_
          refine z_inl ?_
          refine z_lv (lv2 := [(0, _)]) ⟨rfl, trivial⟩ ?_
          refine z_iload_n (pc2 := 1) rfl rfl rfl ?_
          refine z_bipush (pc2 := 3) rfl rfl (by decide) ?_
          refine z_shr_11 (pc2 := 4) rfl rfl (by omega) ?_
          refine z_sipush (pc2 := 7) rfl rfl (by decide) ?_
          refine z_and_255 (pc2 := 8) rfl rfl ?_
          refine z_iret rfl rfl ?_
          show zB _ _ _ _ _ _ [_, _] _ _
          refine z_callV (y2 := 190) (as := [_]) (rest := []) (pc2 := 93) rfl rfl rfl rfl t56 rfl ?_
          refine m_widthOfLetter hT (by omega) (by first | assumption | (refine ⟨?_, ?_⟩ <;> omega)) (fun w21 w21r => ?_)
          show zB _ _ _ _ _ _ [_] _ _
          refine z_goto (pc2 := 98) rfl rfl ?_
          refine z_istore (lv2 := [(5, _), (4, _), (3, _), (2, _), (0, _), (1, _)]) (pc2 := 100) rfl rfl rfl rfl ?_
          refine z_iload (pc2 := 102) rfl rfl rfl ?_
          refine z_iload (pc2 := 104) rfl rfl rfl ?_
          refine z_icmp_le (t := 112) (pc2 := 107) rfl rfl rfl (by omega) (by omega) (fun c22 => ?_) (fun c22 => ?_)
          ·
            refine z_iload (pc2 := 114) rfl rfl rfl ?_
            refine z_iret rfl rfl ?_
            exact hK _
          ·
            refine z_iload (pc2 := 109) rfl rfl rfl ?_
            refine z_goto (pc2 := 114) rfl rfl ?_
            refine z_iret rfl rfl ?_
            exact hK _
      ·
        refine z_aload_n (pc2 := 54) rfl rfl rfl ?_
        refine z_getP (pc2 := 57) rfl rfl rfl rfl t56 ?_
        intro p23 p23e p23k; replace p23k : p23 = some 70 := p23k; clear p23e; subst p23k
        refine z_iconst (pc2 := 58) rfl rfl ?_
        refine z_iload_n (pc2 := 59) rfl rfl rfl ?_
        refine z_imul (pc2 := 60) rfl rfl ?_
        refine z_iload_n (pc2 := 61) rfl rfl rfl ?_
        refine z_callS (y2 := 173) (as := [_]) (rest := [_, _]) (pc2 := 64) rfl rfl rfl rfl ?_
        refine z_inl ?_
        refine z_lv (lv2 := [(0, _)]) ⟨rfl, trivial⟩ ?_
        refine z_iload_n (pc2 := 1) rfl rfl rfl ?_
        refine z_iconst (pc2 := 2) rfl rfl ?_
        refine z_shr_3 (pc2 := 3) rfl rfl (by omega) ?_
        refine z_sipush (pc2 := 6) rfl rfl (by decide) ?_
        refine z_and_255 (pc2 := 7) rfl rfl ?_
        refine z_iret rfl rfl ?_
        show zB _ _ _ _ _ _ [_, _, _] _ _
        refine z_callS (y2 := 178) (as := [_]) (rest := [_, _]) (pc2 := 67) rfl rfl rfl rfl ?_
        refine z_inl ?_
        refine z_lv (lv2 := [(0, _)]) ⟨rfl, trivial⟩ ?_
        refine z_iload_n (pc2 := 1) rfl rfl rfl ?_
        refine z_iconst (pc2 := 2) rfl rfl ?_
        refine z_shr_3 (pc2 := 3) rfl rfl (by omega) ?_
        refine z_iret rfl rfl ?_
        show zB _ _ _ _ _ _ [_, _, _] _ _
        refine z_iadd (pc2 := 68) rfl rfl ?_
        refine z_iald (pc2 := 69) rfl rfl t70 (by omega) (by omega) (by decide) ?_
        intro v27 e27 r27 k27
        clear e27
        clear k27
        refine z_iret rfl rfl ?_
        exact hK _
    ·
      refine z_iload_n (pc2 := 28) rfl rfl rfl ?_
      refine z_iconst (pc2 := 29) rfl rfl ?_
      refine z_icmp_ne (t := 41) (pc2 := 32) rfl rfl rfl (by omega) (by omega) (fun c28 => ?_) (fun c28 => by exfalso; omega)
      refine z_iconst (pc2 := 42) rfl rfl ?_
      refine z_iload_n (pc2 := 43) rfl rfl rfl ?_
      refine z_callS (y2 := 175) (as := [_]) (rest := [_]) (pc2 := 46) rfl rfl rfl rfl ?_
      refine z_inl ?_
      refine z_lv (lv2 := [(0, _)]) ⟨rfl, trivial⟩ ?_
      refine z_iload_n (pc2 := 1) rfl rfl rfl ?_
      refine z_bipush (pc2 := 3) rfl rfl (by decide) ?_
      refine z_shr_19 (pc2 := 4) rfl rfl (by omega) ?_
      refine z_sipush (pc2 := 7) rfl rfl (by decide) ?_
      refine z_isub (pc2 := 8) rfl rfl ?_
      refine z_iret rfl rfl ?_
      show zB _ _ _ _ _ _ [_, _] _ _
      refine z_iadd (pc2 := 47) rfl rfl ?_
      refine z_iret rfl rfl ?_
      exact hK _
set_option maxHeartbeats 8000000 in
theorem m_coded {L : Nat} {xs : Nat → Int32} {n sl : Nat} {T : Nat → zT} {I : Nat → Nat → Int} {P : Nat → Nat → Option Nat} {G : Nat → Nat → Int} {K : List zV → zH → Prop} {s : Int} (hT : ∀ a, 56 ≤ a → a ≤ 90 → T a = zFix a) (hs : zR s) (hg : zGd s) (hK : ∀ e, K [.inl e] (n, sl, T, I, P, G)) : zX zMd L xs 216 [.inr (.inl (some 56)), .inl s] (n, sl, T, I, P, G) K := by
  have t56 : T 56 = (1, 12, [1]) := hT 56 (by decide) (by decide)
  have hg' := hg
  unfold zGd at hg'
  refine z_inl ?_
  refine z_lv (lv2 := [(0, _), (1, _)]) ⟨rfl, rfl, trivial⟩ ?_
  refine z_iload_n (pc2 := 1) rfl rfl rfl ?_
  refine z_callS (y2 := 172) (as := [_]) (rest := []) (pc2 := 4) rfl rfl rfl rfl ?_
  refine z_inl ?_
  refine z_lv (lv2 := [(0, _)]) ⟨rfl, trivial⟩ ?_
  refine z_iload_n (pc2 := 1) rfl rfl rfl ?_
  refine z_bipush (pc2 := 3) rfl rfl (by decide) ?_
  refine z_and_7 (pc2 := 4) rfl rfl ?_
  refine z_iconst (pc2 := 5) rfl rfl ?_
  refine z_isub (pc2 := 6) rfl rfl ?_
  refine z_iret rfl rfl ?_
  show zB _ _ _ _ _ _ [_] _ _
  refine z_istore_n (lv2 := [(2, _), (0, _), (1, _)]) (pc2 := 5) rfl rfl rfl rfl ?_
  refine z_iload_n (pc2 := 6) rfl rfl rfl ?_
  refine z_callS (y2 := 180) (as := [_]) (rest := []) (pc2 := 9) rfl rfl rfl rfl ?_
  refine m_isLetter (by omega) (fun w2 w2r w2g w2h => ?_)
  show zB _ _ _ _ _ _ [_] _ _
  refine z_if_eq (t := 23) (pc2 := 12) rfl rfl rfl (by omega) (fun c3 => ?_) (fun c3 => ?_)
  ·
    refine z_iload_n (pc2 := 24) rfl rfl rfl ?_
    refine z_iconst (pc2 := 25) rfl rfl ?_
    refine z_icmp_ne (t := 38) (pc2 := 28) rfl rfl rfl (by omega) (by omega) (fun c4 => ?_) (fun c4 => ?_)
    ·
      refine z_iconst (pc2 := 39) rfl rfl ?_
      refine z_iret rfl rfl ?_
      exact hK _
    ·
      refine z_iload_n (pc2 := 29) rfl rfl rfl ?_
      refine z_callS (y2 := 173) (as := [_]) (rest := []) (pc2 := 32) rfl rfl rfl rfl ?_
      refine z_inl ?_
      refine z_lv (lv2 := [(0, _)]) ⟨rfl, trivial⟩ ?_
      refine z_iload_n (pc2 := 1) rfl rfl rfl ?_
      refine z_iconst (pc2 := 2) rfl rfl ?_
      refine z_shr_3 (pc2 := 3) rfl rfl (by omega) ?_
      refine z_sipush (pc2 := 6) rfl rfl (by decide) ?_
      refine z_and_255 (pc2 := 7) rfl rfl ?_
      refine z_iret rfl rfl ?_
      show zB _ _ _ _ _ _ [_] _ _
      refine z_callS (y2 := 178) (as := [_]) (rest := []) (pc2 := 35) rfl rfl rfl rfl ?_
      refine z_inl ?_
      refine z_lv (lv2 := [(0, _)]) ⟨rfl, trivial⟩ ?_
      refine z_iload_n (pc2 := 1) rfl rfl rfl ?_
      refine z_iconst (pc2 := 2) rfl rfl ?_
      refine z_shr_3 (pc2 := 3) rfl rfl (by omega) ?_
      refine z_iret rfl rfl ?_
      show zB _ _ _ _ _ _ [_] _ _
      refine z_goto (pc2 := 39) rfl rfl ?_
      refine z_iret rfl rfl ?_
      exact hK _
  ·
    refine z_aload_n (pc2 := 13) rfl rfl rfl ?_
    refine z_iload_n (pc2 := 14) rfl rfl rfl ?_
    refine z_callS (y2 := 173) (as := [_]) (rest := [_]) (pc2 := 17) rfl rfl rfl rfl ?_
    refine z_inl ?_
    refine z_lv (lv2 := [(0, _)]) ⟨rfl, trivial⟩ ?_
    refine z_iload_n (pc2 := 1) rfl rfl rfl ?_
    refine z_iconst (pc2 := 2) rfl rfl ?_
    refine z_shr_3 (pc2 := 3) rfl rfl (by omega) ?_
    refine z_sipush (pc2 := 6) rfl rfl (by decide) ?_
    refine z_and_255 (pc2 := 7) rfl rfl ?_
    refine z_iret rfl rfl ?_
    show zB _ _ _ _ _ _ [_, _] _ _
    refine z_callV (y2 := 187) (as := [_]) (rest := []) (pc2 := 20) rfl rfl rfl rfl t56 rfl ?_
    refine m_firstLetter hT (by omega) (by first | assumption | (refine ⟨?_, ?_⟩ <;> omega)) (fun w10 w10r => ?_)
    show zB _ _ _ _ _ _ [_] _ _
    refine z_goto (pc2 := 39) rfl rfl ?_
    refine z_iret rfl rfl ?_
    exact hK _
set_option maxHeartbeats 8000000 in
theorem m_leaves {L : Nat} {xs : Nat → Int32} {n sl : Nat} {T : Nat → zT} {I : Nat → Nat → Int} {P : Nat → Nat → Option Nat} {G : Nat → Nat → Int} {K : List zV → zH → Prop} {b : Int} (hT : ∀ a, 56 ≤ a → a ≤ 90 → T a = zFix a) (hb : zR b) (htr : I 56 7 ≤ 999999) (hK : ∀ I2 G2, I2 56 7 = I 56 7 + 1 → zFr I I2 → K [] (n, sl, T, I2, P, G2)) : zX zMd L xs 189 [.inr (.inl (some 56)), .inl b] (n, sl, T, I, P, G) K := by
  have t56 : T 56 = (1, 12, [1]) := hT 56 (by decide) (by decide)
  have t60 : T 60 = (2, 0, [60, 0]) := hT 60 (by decide) (by decide)
  refine z_inl ?_
  refine z_lv (lv2 := [(0, _), (1, _)]) ⟨rfl, rfl, trivial⟩ ?_
  refine z_aload_n (pc2 := 1) rfl rfl rfl ?_
  refine z_getI (pc2 := 4) 0 rfl rfl rfl rfl rfl t56 ?_
  intro v1 e1 r1 k1
  replace k1 : (0 : Int) ≤ v1 ∧ v1 ≤ 1000000 := k1; clear r1
  refine z_bipush (pc2 := 6) rfl rfl (by decide) ?_
  refine z_icmp_ge (t := 19) (pc2 := 9) rfl rfl rfl (by omega) (by omega) (fun c2 => ?_) (fun c2 => ?_)
  ·
    refine z_aload_n (pc2 := 20) rfl rfl rfl ?_
    refine z_dup (pc2 := 21) rfl rfl rfl ?_
    refine z_getI (pc2 := 24) 0 rfl rfl rfl rfl rfl t56 ?_
    intro v3 e3 r3 k3
    replace k3 : (0 : Int) ≤ v3 ∧ v3 ≤ 1000000 := k3; clear r3
    replace e3 : v1 = v3 := by rw [e3]; first | exact e1 | exact Eq.symm e1 | (simp [zU]; first | done | exact e1 | exact Eq.symm e1 | omega)
    subst e3
    refine z_iconst (pc2 := 25) rfl rfl ?_
    refine z_iadd (pc2 := 26) rfl rfl ?_
    refine z_putI (pc2 := 29) rfl rfl rfl rfl rfl rfl t56 (by omega) (by show (0 : Int) ≤ _ ∧ _ ≤ 1000000; omega) ?_
    refine z_ret rfl rfl ?_
    exact hK _ _ (by simp [zU]; omega) (by repeat (first | exact zFr_rf _ | assumption | refine zFr_a ?_ (by decide) | refine zFr_f ?_ (by decide) | refine zFr_n ?_ (by omega) | refine zFr_h ?_ (by omega) | refine zFr_tok ?_ (by omega)))
  ·
    refine z_aload_n (pc2 := 10) rfl rfl rfl ?_
    refine z_getP (pc2 := 13) rfl rfl rfl rfl t56 ?_
    intro p4 p4e p4k; replace p4k : p4 = some 60 := p4k; clear p4e; subst p4k
    refine z_aload_n (pc2 := 14) rfl rfl rfl ?_
    refine z_getI (pc2 := 17) 0 rfl rfl rfl rfl rfl t56 ?_
    intro v5 e5 r5 k5
    replace k5 : (0 : Int) ≤ v5 ∧ v5 ≤ 1000000 := k5; clear r5
    replace e5 : v1 = v5 := by rw [e5]; first | exact e1 | exact Eq.symm e1 | (simp [zU]; first | done | exact e1 | exact Eq.symm e1 | omega)
    subst e5
    refine z_iload_n (pc2 := 18) rfl rfl rfl ?_
    refine z_iast (pc2 := 19) rfl rfl t60 (by omega) (by omega) (by decide) (by omega) True.intro ?_
    refine z_aload_n (pc2 := 20) rfl rfl rfl ?_
    refine z_dup (pc2 := 21) rfl rfl rfl ?_
    refine z_getI (pc2 := 24) 0 rfl rfl rfl rfl rfl t56 ?_
    intro v6 e6 r6 k6
    replace k6 : (0 : Int) ≤ v6 ∧ v6 ≤ 1000000 := k6; clear r6
    replace e6 : v1 = v6 := by rw [e6]; first | exact e1 | exact Eq.symm e1 | (simp [zU]; first | done | exact e1 | exact Eq.symm e1 | omega)
    subst e6
    refine z_iconst (pc2 := 25) rfl rfl ?_
    refine z_iadd (pc2 := 26) rfl rfl ?_
    refine z_putI (pc2 := 29) rfl rfl rfl rfl rfl rfl t56 (by omega) (by show (0 : Int) ≤ _ ∧ _ ≤ 1000000; omega) ?_
    refine z_ret rfl rfl ?_
    exact hK _ _ (by simp [zU]; omega) (by repeat (first | exact zFr_rf _ | assumption | refine zFr_a ?_ (by decide) | refine zFr_f ?_ (by decide) | refine zFr_n ?_ (by omega) | refine zFr_h ?_ (by omega) | refine zFr_tok ?_ (by omega)))
set_option maxHeartbeats 8000000 in
theorem m_wide {L : Nat} {xs : Nat → Int32} {n sl : Nat} {T : Nat → zT} {I : Nat → Nat → Int} {P : Nat → Nat → Option Nat} {G : Nat → Nat → Int} {K : List zV → zH → Prop} {s : Int} (hT : ∀ a, 56 ≤ a → a ≤ 90 → T a = zFix a) (hs : zR s) (hg : zGd s) (htr : I 56 7 ≤ 999990) (hK : ∀ e I2 G2, I2 56 7 ≤ I 56 7 + 3 → zFr I I2 → K [.inl e] (n, sl, T, I2, P, G2)) : zX zMd L xs 192 [.inr (.inl (some 56)), .inl s] (n, sl, T, I, P, G) K := by
  have t56 : T 56 = (1, 12, [1]) := hT 56 (by decide) (by decide)
  have hg' := hg
  unfold zGd at hg'
  refine z_inl ?_
  refine z_lv (lv2 := [(0, _), (1, _)]) ⟨rfl, rfl, trivial⟩ ?_
  refine z_iload_n (pc2 := 1) rfl rfl rfl ?_
  refine z_callS (y2 := 172) (as := [_]) (rest := []) (pc2 := 4) rfl rfl rfl rfl ?_
  refine z_inl ?_
  refine z_lv (lv2 := [(0, _)]) ⟨rfl, trivial⟩ ?_
  refine z_iload_n (pc2 := 1) rfl rfl rfl ?_
  refine z_bipush (pc2 := 3) rfl rfl (by decide) ?_
  refine z_and_7 (pc2 := 4) rfl rfl ?_
  refine z_iconst (pc2 := 5) rfl rfl ?_
  refine z_isub (pc2 := 6) rfl rfl ?_
  refine z_iret rfl rfl ?_
  show zB _ _ _ _ _ _ [_] _ _
  refine z_istore_n (lv2 := [(2, _), (0, _), (1, _)]) (pc2 := 5) rfl rfl rfl rfl ?_
  refine z_iload_n (pc2 := 6) rfl rfl rfl ?_
  refine z_iconst (pc2 := 7) rfl rfl ?_
  refine z_icmp_eq (t := 15) (pc2 := 10) rfl rfl rfl (by omega) (by omega) (fun c2 => ?_) (fun c2 => ?_)
  ·
    refine z_aload_n (pc2 := 16) rfl rfl rfl ?_
    refine z_iconst (pc2 := 17) rfl rfl ?_
    refine z_callV (y2 := 189) (as := [_]) (rest := []) (pc2 := 20) rfl rfl rfl rfl t56 rfl ?_
    refine m_leaves hT (by omega) (by first | omega | (simp [zU] <;> omega)) (fun Iw3 Gw3 w3h fw3 => ?_)
    try simp only [zU] at w3h
    replace fw3 := zFr_tr (I := I) (by repeat (first | exact zFr_rf _ | assumption | refine zFr_a ?_ (by decide) | refine zFr_f ?_ (by decide) | refine zFr_n ?_ (by omega) | refine zFr_h ?_ (by omega) | refine zFr_tok ?_ (by omega))) fw3
    show zB _ _ _ _ _ _ [] _ _
    refine z_aload_n (pc2 := 21) rfl rfl rfl ?_
    refine z_iload_n (pc2 := 22) rfl rfl rfl ?_
    refine z_iconst (pc2 := 23) rfl rfl ?_
    refine z_icmp_ne (t := 31) (pc2 := 26) rfl rfl rfl (by omega) (by omega) (fun c4 => by exfalso; omega) (fun c4 => ?_)
    refine z_bipush (pc2 := 28) rfl rfl (by decide) ?_
    refine z_goto (pc2 := 33) rfl rfl ?_
    refine z_callV (y2 := 189) (as := [_]) (rest := []) (pc2 := 36) rfl rfl rfl rfl t56 rfl ?_
    refine m_leaves hT (by omega) (by first | omega | (simp [zU] <;> omega)) (fun Iw5 Gw5 w5h fw5 => ?_)
    try simp only [zU] at w5h
    replace fw5 := zFr_tr (I := I) (by repeat (first | exact zFr_rf _ | assumption | refine zFr_a ?_ (by decide) | refine zFr_f ?_ (by decide) | refine zFr_n ?_ (by omega) | refine zFr_h ?_ (by omega) | refine zFr_tok ?_ (by omega))) fw5
    show zB _ _ _ _ _ _ [] _ _
    refine z_goto (pc2 := 105) rfl rfl ?_
    refine z_aload_n (pc2 := 106) rfl rfl rfl ?_
    refine z_iload_n (pc2 := 107) rfl rfl rfl ?_
    refine z_callV (y2 := 191) (as := [_]) (rest := []) (pc2 := 110) rfl rfl rfl rfl t56 rfl ?_
    refine m_widthOf hT (by omega) (by assumption) (fun w6 => ?_)
    show zB _ _ _ _ _ _ [_] _ _
    refine z_iret rfl rfl ?_
    exact hK _ _ _ (by first | omega | (simp [zU] <;> omega)) (by repeat (first | exact zFr_rf _ | assumption | refine zFr_a ?_ (by decide) | refine zFr_f ?_ (by decide) | refine zFr_n ?_ (by omega) | refine zFr_h ?_ (by omega) | refine zFr_tok ?_ (by omega)))
  ·
    refine z_iload_n (pc2 := 11) rfl rfl rfl ?_
    refine z_iconst (pc2 := 12) rfl rfl ?_
    refine z_icmp_ne (t := 39) (pc2 := 15) rfl rfl rfl (by omega) (by omega) (fun c7 => ?_) (fun c7 => ?_)
    ·
      refine z_iload_n (pc2 := 40) rfl rfl rfl ?_
      refine z_iconst (pc2 := 41) rfl rfl ?_
      refine z_icmp_ne (t := 52) (pc2 := 44) rfl rfl rfl (by omega) (by omega) (fun c8 => ?_) (fun c8 => ?_)
      ·
        refine z_iload_n (pc2 := 53) rfl rfl rfl ?_
        refine z_iconst (pc2 := 54) rfl rfl ?_
        refine z_icmp_ne (t := 62) (pc2 := 57) rfl rfl rfl (by omega) (by omega) (fun c9 => ?_) (fun c9 => ?_)
        ·
          refine z_aload_n (pc2 := 63) rfl rfl rfl ?_
          refine z_iload_n (pc2 := 64) rfl rfl rfl ?_
          refine z_callS (y2 := 173) (as := [_]) (rest := [_]) (pc2 := 67) rfl rfl rfl rfl ?_
          refine z_inl ?_
          refine z_lv (lv2 := [(0, _)]) ⟨rfl, trivial⟩ ?_
          refine z_iload_n (pc2 := 1) rfl rfl rfl ?_
          refine z_iconst (pc2 := 2) rfl rfl ?_
          refine z_shr_3 (pc2 := 3) rfl rfl (by omega) ?_
          refine z_sipush (pc2 := 6) rfl rfl (by decide) ?_
          refine z_and_255 (pc2 := 7) rfl rfl ?_
          refine z_iret rfl rfl ?_
          show zB _ _ _ _ _ _ [_, _] _ _
          refine z_callS (y2 := 179) (as := [_]) (rest := [_]) (pc2 := 70) rfl rfl rfl rfl ?_
          refine z_inl ?_
          refine z_lv (lv2 := [(0, _)]) ⟨rfl, trivial⟩ ?_
          refine z_iload_n (pc2 := 1) rfl rfl rfl ?_
          refine z_iconst (pc2 := 2) rfl rfl ?_
          refine z_and_1 (pc2 := 3) rfl rfl ?_
          refine z_iconst (pc2 := 4) rfl rfl ?_
          refine z_icmp_ne (t := 11) (pc2 := 7) rfl rfl rfl (by omega) (by omega) (fun c13 => ?_) (fun c13 => ?_)
          ·
            refine z_iconst (pc2 := 12) rfl rfl ?_
            refine z_zret rfl rfl (by omega) ?_
            show zB _ _ _ _ _ _ [_, _] _ _
            refine z_if_eq (t := 77) (pc2 := 73) rfl rfl rfl (by omega) (fun c14 => ?_) (fun c14 => by exfalso; omega)
            refine z_iconst (pc2 := 78) rfl rfl ?_
            refine z_callV (y2 := 189) (as := [_]) (rest := []) (pc2 := 81) rfl rfl rfl rfl t56 rfl ?_
            refine m_leaves hT (by omega) (by first | omega | (simp [zU] <;> omega)) (fun Iw15 Gw15 w15h fw15 => ?_)
            try simp only [zU] at w15h
            replace fw15 := zFr_tr (I := I) (by repeat (first | exact zFr_rf _ | assumption | refine zFr_a ?_ (by decide) | refine zFr_f ?_ (by decide) | refine zFr_n ?_ (by omega) | refine zFr_h ?_ (by omega) | refine zFr_tok ?_ (by omega))) fw15
            show zB _ _ _ _ _ _ [] _ _
            refine z_iload_n (pc2 := 82) rfl rfl rfl ?_
            refine z_iconst (pc2 := 83) rfl rfl ?_
            refine z_icmp_ne (t := 105) (pc2 := 86) rfl rfl rfl (by omega) (by omega) (fun c16 => ?_) (fun c16 => ?_)
            ·
              refine z_aload_n (pc2 := 106) rfl rfl rfl ?_
              refine z_iload_n (pc2 := 107) rfl rfl rfl ?_
              refine z_callV (y2 := 191) (as := [_]) (rest := []) (pc2 := 110) rfl rfl rfl rfl t56 rfl ?_
              refine m_widthOf hT (by omega) (by assumption) (fun w17 => ?_)
              show zB _ _ _ _ _ _ [_] _ _
              refine z_iret rfl rfl ?_
              exact hK _ _ _ (by first | omega | (simp [zU] <;> omega)) (by repeat (first | exact zFr_rf _ | assumption | refine zFr_a ?_ (by decide) | refine zFr_f ?_ (by decide) | refine zFr_n ?_ (by omega) | refine zFr_h ?_ (by omega) | refine zFr_tok ?_ (by omega)))
            ·
              refine z_aload_n (pc2 := 87) rfl rfl rfl ?_
              refine z_iload_n (pc2 := 88) rfl rfl rfl ?_
              refine z_callS (y2 := 174) (as := [_]) (rest := [_]) (pc2 := 91) rfl rfl rfl rfl ?_
              refine z_inl ?_
              refine z_lv (lv2 := [(0, _)]) ⟨rfl, trivial⟩ ?_
              refine z_iload_n (pc2 := 1) rfl rfl rfl ?_
              refine z_bipush (pc2 := 3) rfl rfl (by decide) ?_
              refine z_shr_11 (pc2 := 4) rfl rfl (by omega) ?_
              refine z_sipush (pc2 := 7) rfl rfl (by decide) ?_
              refine z_and_255 (pc2 := 8) rfl rfl ?_
              refine z_iret rfl rfl ?_
              show zB _ _ _ _ _ _ [_, _] _ _
              refine z_callS (y2 := 179) (as := [_]) (rest := [_]) (pc2 := 94) rfl rfl rfl rfl ?_
              refine z_inl ?_
              refine z_lv (lv2 := [(0, _)]) ⟨rfl, trivial⟩ ?_
              refine z_iload_n (pc2 := 1) rfl rfl rfl ?_
              refine z_iconst (pc2 := 2) rfl rfl ?_
              refine z_and_1 (pc2 := 3) rfl rfl ?_
              refine z_iconst (pc2 := 4) rfl rfl ?_
              refine z_icmp_ne (t := 11) (pc2 := 7) rfl rfl rfl (by omega) (by omega) (fun c21 => ?_) (fun c21 => ?_)
              ·
                refine z_iconst (pc2 := 12) rfl rfl ?_
                refine z_zret rfl rfl (by omega) ?_
                show zB _ _ _ _ _ _ [_, _] _ _
                refine z_if_eq (t := 101) (pc2 := 97) rfl rfl rfl (by omega) (fun c22 => ?_) (fun c22 => by exfalso; omega)
                refine z_iconst (pc2 := 102) rfl rfl ?_
                refine z_callV (y2 := 189) (as := [_]) (rest := []) (pc2 := 105) rfl rfl rfl rfl t56 rfl ?_
                refine m_leaves hT (by omega) (by first | omega | (simp [zU] <;> omega)) (fun Iw23 Gw23 w23h fw23 => ?_)
                try simp only [zU] at w23h
                replace fw23 := zFr_tr (I := I) (by repeat (first | exact zFr_rf _ | assumption | refine zFr_a ?_ (by decide) | refine zFr_f ?_ (by decide) | refine zFr_n ?_ (by omega) | refine zFr_h ?_ (by omega) | refine zFr_tok ?_ (by omega))) fw23
                show zB _ _ _ _ _ _ [] _ _
                refine z_aload_n (pc2 := 106) rfl rfl rfl ?_
                refine z_iload_n (pc2 := 107) rfl rfl rfl ?_
                refine z_callV (y2 := 191) (as := [_]) (rest := []) (pc2 := 110) rfl rfl rfl rfl t56 rfl ?_
                refine m_widthOf hT (by omega) (by assumption) (fun w24 => ?_)
                show zB _ _ _ _ _ _ [_] _ _
                refine z_iret rfl rfl ?_
                exact hK _ _ _ (by first | omega | (simp [zU] <;> omega)) (by repeat (first | exact zFr_rf _ | assumption | refine zFr_a ?_ (by decide) | refine zFr_f ?_ (by decide) | refine zFr_n ?_ (by omega) | refine zFr_h ?_ (by omega) | refine zFr_tok ?_ (by omega)))
              ·
                refine z_iconst (pc2 := 8) rfl rfl ?_
                refine z_goto (pc2 := 12) rfl rfl ?_
                refine z_zret rfl rfl (by omega) ?_
                show zB _ _ _ _ _ _ [_, _] _ _
                refine z_if_eq (t := 101) (pc2 := 97) rfl rfl rfl (by omega) (fun c25 => by exfalso; omega) (fun c25 => ?_)
                refine z_iconst (pc2 := 98) rfl rfl ?_
                refine z_goto (pc2 := 102) rfl rfl ?_
                refine z_callV (y2 := 189) (as := [_]) (rest := []) (pc2 := 105) rfl rfl rfl rfl t56 rfl ?_
                refine m_leaves hT (by omega) (by first | omega | (simp [zU] <;> omega)) (fun Iw26 Gw26 w26h fw26 => ?_)
                try simp only [zU] at w26h
                replace fw26 := zFr_tr (I := I) (by repeat (first | exact zFr_rf _ | assumption | refine zFr_a ?_ (by decide) | refine zFr_f ?_ (by decide) | refine zFr_n ?_ (by omega) | refine zFr_h ?_ (by omega) | refine zFr_tok ?_ (by omega))) fw26
                show zB _ _ _ _ _ _ [] _ _
                refine z_aload_n (pc2 := 106) rfl rfl rfl ?_
                refine z_iload_n (pc2 := 107) rfl rfl rfl ?_
                refine z_callV (y2 := 191) (as := [_]) (rest := []) (pc2 := 110) rfl rfl rfl rfl t56 rfl ?_
                refine m_widthOf hT (by omega) (by assumption) (fun w27 => ?_)
                show zB _ _ _ _ _ _ [_] _ _
                refine z_iret rfl rfl ?_
                exact hK _ _ _ (by first | omega | (simp [zU] <;> omega)) (by repeat (first | exact zFr_rf _ | assumption | refine zFr_a ?_ (by decide) | refine zFr_f ?_ (by decide) | refine zFr_n ?_ (by omega) | refine zFr_h ?_ (by omega) | refine zFr_tok ?_ (by omega)))
          ·
            refine z_iconst (pc2 := 8) rfl rfl ?_
            refine z_goto (pc2 := 12) rfl rfl ?_
            refine z_zret rfl rfl (by omega) ?_
            show zB _ _ _ _ _ _ [_, _] _ _
            refine z_if_eq (t := 77) (pc2 := 73) rfl rfl rfl (by omega) (fun c28 => by exfalso; omega) (fun c28 => ?_)
            refine z_iconst (pc2 := 74) rfl rfl ?_
            refine z_goto (pc2 := 78) rfl rfl ?_
            refine z_callV (y2 := 189) (as := [_]) (rest := []) (pc2 := 81) rfl rfl rfl rfl t56 rfl ?_
            refine m_leaves hT (by omega) (by first | omega | (simp [zU] <;> omega)) (fun Iw29 Gw29 w29h fw29 => ?_)
            try simp only [zU] at w29h
            replace fw29 := zFr_tr (I := I) (by repeat (first | exact zFr_rf _ | assumption | refine zFr_a ?_ (by decide) | refine zFr_f ?_ (by decide) | refine zFr_n ?_ (by omega) | refine zFr_h ?_ (by omega) | refine zFr_tok ?_ (by omega))) fw29
            show zB _ _ _ _ _ _ [] _ _
            refine z_iload_n (pc2 := 82) rfl rfl rfl ?_
            refine z_iconst (pc2 := 83) rfl rfl ?_
            refine z_icmp_ne (t := 105) (pc2 := 86) rfl rfl rfl (by omega) (by omega) (fun c30 => ?_) (fun c30 => ?_)
            ·
              refine z_aload_n (pc2 := 106) rfl rfl rfl ?_
              refine z_iload_n (pc2 := 107) rfl rfl rfl ?_
              refine z_callV (y2 := 191) (as := [_]) (rest := []) (pc2 := 110) rfl rfl rfl rfl t56 rfl ?_
              refine m_widthOf hT (by omega) (by assumption) (fun w31 => ?_)
              show zB _ _ _ _ _ _ [_] _ _
              refine z_iret rfl rfl ?_
              exact hK _ _ _ (by first | omega | (simp [zU] <;> omega)) (by repeat (first | exact zFr_rf _ | assumption | refine zFr_a ?_ (by decide) | refine zFr_f ?_ (by decide) | refine zFr_n ?_ (by omega) | refine zFr_h ?_ (by omega) | refine zFr_tok ?_ (by omega)))
            ·
              refine z_aload_n (pc2 := 87) rfl rfl rfl ?_
              refine z_iload_n (pc2 := 88) rfl rfl rfl ?_
              refine z_callS (y2 := 174) (as := [_]) (rest := [_]) (pc2 := 91) rfl rfl rfl rfl ?_
              refine z_inl ?_
              refine z_lv (lv2 := [(0, _)]) ⟨rfl, trivial⟩ ?_
              refine z_iload_n (pc2 := 1) rfl rfl rfl ?_
              refine z_bipush (pc2 := 3) rfl rfl (by decide) ?_
              refine z_shr_11 (pc2 := 4) rfl rfl (by omega) ?_
              refine z_sipush (pc2 := 7) rfl rfl (by decide) ?_
              refine z_and_255 (pc2 := 8) rfl rfl ?_
              refine z_iret rfl rfl ?_
              show zB _ _ _ _ _ _ [_, _] _ _
              refine z_callS (y2 := 179) (as := [_]) (rest := [_]) (pc2 := 94) rfl rfl rfl rfl ?_
              refine z_inl ?_
              refine z_lv (lv2 := [(0, _)]) ⟨rfl, trivial⟩ ?_
              refine z_iload_n (pc2 := 1) rfl rfl rfl ?_
              refine z_iconst (pc2 := 2) rfl rfl ?_
              refine z_and_1 (pc2 := 3) rfl rfl ?_
              refine z_iconst (pc2 := 4) rfl rfl ?_
              refine z_icmp_ne (t := 11) (pc2 := 7) rfl rfl rfl (by omega) (by omega) (fun c35 => ?_) (fun c35 => ?_)
              ·
                refine z_iconst (pc2 := 12) rfl rfl ?_
                refine z_zret rfl rfl (by omega) ?_
                show zB _ _ _ _ _ _ [_, _] _ _
                refine z_if_eq (t := 101) (pc2 := 97) rfl rfl rfl (by omega) (fun c36 => ?_) (fun c36 => by exfalso; omega)
                refine z_iconst (pc2 := 102) rfl rfl ?_
                refine z_callV (y2 := 189) (as := [_]) (rest := []) (pc2 := 105) rfl rfl rfl rfl t56 rfl ?_
                refine m_leaves hT (by omega) (by first | omega | (simp [zU] <;> omega)) (fun Iw37 Gw37 w37h fw37 => ?_)
                try simp only [zU] at w37h
                replace fw37 := zFr_tr (I := I) (by repeat (first | exact zFr_rf _ | assumption | refine zFr_a ?_ (by decide) | refine zFr_f ?_ (by decide) | refine zFr_n ?_ (by omega) | refine zFr_h ?_ (by omega) | refine zFr_tok ?_ (by omega))) fw37
                show zB _ _ _ _ _ _ [] _ _
                refine z_aload_n (pc2 := 106) rfl rfl rfl ?_
                refine z_iload_n (pc2 := 107) rfl rfl rfl ?_
                refine z_callV (y2 := 191) (as := [_]) (rest := []) (pc2 := 110) rfl rfl rfl rfl t56 rfl ?_
                refine m_widthOf hT (by omega) (by assumption) (fun w38 => ?_)
                show zB _ _ _ _ _ _ [_] _ _
                refine z_iret rfl rfl ?_
                exact hK _ _ _ (by first | omega | (simp [zU] <;> omega)) (by repeat (first | exact zFr_rf _ | assumption | refine zFr_a ?_ (by decide) | refine zFr_f ?_ (by decide) | refine zFr_n ?_ (by omega) | refine zFr_h ?_ (by omega) | refine zFr_tok ?_ (by omega)))
              ·
                refine z_iconst (pc2 := 8) rfl rfl ?_
                refine z_goto (pc2 := 12) rfl rfl ?_
                refine z_zret rfl rfl (by omega) ?_
                show zB _ _ _ _ _ _ [_, _] _ _
                refine z_if_eq (t := 101) (pc2 := 97) rfl rfl rfl (by omega) (fun c39 => by exfalso; omega) (fun c39 => ?_)
                refine z_iconst (pc2 := 98) rfl rfl ?_
                refine z_goto (pc2 := 102) rfl rfl ?_
                refine z_callV (y2 := 189) (as := [_]) (rest := []) (pc2 := 105) rfl rfl rfl rfl t56 rfl ?_
                refine m_leaves hT (by omega) (by first | omega | (simp [zU] <;> omega)) (fun Iw40 Gw40 w40h fw40 => ?_)
                try simp only [zU] at w40h
                replace fw40 := zFr_tr (I := I) (by repeat (first | exact zFr_rf _ | assumption | refine zFr_a ?_ (by decide) | refine zFr_f ?_ (by decide) | refine zFr_n ?_ (by omega) | refine zFr_h ?_ (by omega) | refine zFr_tok ?_ (by omega))) fw40
                show zB _ _ _ _ _ _ [] _ _
                refine z_aload_n (pc2 := 106) rfl rfl rfl ?_
                refine z_iload_n (pc2 := 107) rfl rfl rfl ?_
                refine z_callV (y2 := 191) (as := [_]) (rest := []) (pc2 := 110) rfl rfl rfl rfl t56 rfl ?_
                refine m_widthOf hT (by omega) (by assumption) (fun w41 => ?_)
                show zB _ _ _ _ _ _ [_] _ _
                refine z_iret rfl rfl ?_
                exact hK _ _ _ (by first | omega | (simp [zU] <;> omega)) (by repeat (first | exact zFr_rf _ | assumption | refine zFr_a ?_ (by decide) | refine zFr_f ?_ (by decide) | refine zFr_n ?_ (by omega) | refine zFr_h ?_ (by omega) | refine zFr_tok ?_ (by omega)))
        ·
          refine z_aload_n (pc2 := 58) rfl rfl rfl ?_
          refine z_iconst (pc2 := 59) rfl rfl ?_
          refine z_callV (y2 := 189) (as := [_]) (rest := []) (pc2 := 62) rfl rfl rfl rfl t56 rfl ?_
          refine m_leaves hT (by omega) (by first | omega | (simp [zU] <;> omega)) (fun Iw42 Gw42 w42h fw42 => ?_)
          try simp only [zU] at w42h
          replace fw42 := zFr_tr (I := I) (by repeat (first | exact zFr_rf _ | assumption | refine zFr_a ?_ (by decide) | refine zFr_f ?_ (by decide) | refine zFr_n ?_ (by omega) | refine zFr_h ?_ (by omega) | refine zFr_tok ?_ (by omega))) fw42
          show zB _ _ _ _ _ _ [] _ _
          refine z_aload_n (pc2 := 63) rfl rfl rfl ?_
          refine z_iload_n (pc2 := 64) rfl rfl rfl ?_
          refine z_callS (y2 := 173) (as := [_]) (rest := [_]) (pc2 := 67) rfl rfl rfl rfl ?_
          refine z_inl ?_
          refine z_lv (lv2 := [(0, _)]) ⟨rfl, trivial⟩ ?_
          refine z_iload_n (pc2 := 1) rfl rfl rfl ?_
          refine z_iconst (pc2 := 2) rfl rfl ?_
          refine z_shr_3 (pc2 := 3) rfl rfl (by omega) ?_
          refine z_sipush (pc2 := 6) rfl rfl (by decide) ?_
          refine z_and_255 (pc2 := 7) rfl rfl ?_
          refine z_iret rfl rfl ?_
          show zB _ _ _ _ _ _ [_, _] _ _
          refine z_callS (y2 := 179) (as := [_]) (rest := [_]) (pc2 := 70) rfl rfl rfl rfl ?_
          refine z_inl ?_
          refine z_lv (lv2 := [(0, _)]) ⟨rfl, trivial⟩ ?_
          refine z_iload_n (pc2 := 1) rfl rfl rfl ?_
          refine z_iconst (pc2 := 2) rfl rfl ?_
          refine z_and_1 (pc2 := 3) rfl rfl ?_
          refine z_iconst (pc2 := 4) rfl rfl ?_
          refine z_icmp_ne (t := 11) (pc2 := 7) rfl rfl rfl (by omega) (by omega) (fun c46 => ?_) (fun c46 => ?_)
          ·
            refine z_iconst (pc2 := 12) rfl rfl ?_
            refine z_zret rfl rfl (by omega) ?_
            show zB _ _ _ _ _ _ [_, _] _ _
            refine z_if_eq (t := 77) (pc2 := 73) rfl rfl rfl (by omega) (fun c47 => ?_) (fun c47 => by exfalso; omega)
            refine z_iconst (pc2 := 78) rfl rfl ?_
            refine z_callV (y2 := 189) (as := [_]) (rest := []) (pc2 := 81) rfl rfl rfl rfl t56 rfl ?_
            refine m_leaves hT (by omega) (by first | omega | (simp [zU] <;> omega)) (fun Iw48 Gw48 w48h fw48 => ?_)
            try simp only [zU] at w48h
            replace fw48 := zFr_tr (I := I) (by repeat (first | exact zFr_rf _ | assumption | refine zFr_a ?_ (by decide) | refine zFr_f ?_ (by decide) | refine zFr_n ?_ (by omega) | refine zFr_h ?_ (by omega) | refine zFr_tok ?_ (by omega))) fw48
            show zB _ _ _ _ _ _ [] _ _
            refine z_iload_n (pc2 := 82) rfl rfl rfl ?_
            refine z_iconst (pc2 := 83) rfl rfl ?_
            refine z_icmp_ne (t := 105) (pc2 := 86) rfl rfl rfl (by omega) (by omega) (fun c49 => by exfalso; omega) (fun c49 => ?_)
            refine z_aload_n (pc2 := 87) rfl rfl rfl ?_
            refine z_iload_n (pc2 := 88) rfl rfl rfl ?_
            refine z_callS (y2 := 174) (as := [_]) (rest := [_]) (pc2 := 91) rfl rfl rfl rfl ?_
            refine z_inl ?_
            refine z_lv (lv2 := [(0, _)]) ⟨rfl, trivial⟩ ?_
            refine z_iload_n (pc2 := 1) rfl rfl rfl ?_
            refine z_bipush (pc2 := 3) rfl rfl (by decide) ?_
            refine z_shr_11 (pc2 := 4) rfl rfl (by omega) ?_
            refine z_sipush (pc2 := 7) rfl rfl (by decide) ?_
            refine z_and_255 (pc2 := 8) rfl rfl ?_
            refine z_iret rfl rfl ?_
            show zB _ _ _ _ _ _ [_, _] _ _
            refine z_callS (y2 := 179) (as := [_]) (rest := [_]) (pc2 := 94) rfl rfl rfl rfl ?_
            refine z_inl ?_
            refine z_lv (lv2 := [(0, _)]) ⟨rfl, trivial⟩ ?_
            refine z_iload_n (pc2 := 1) rfl rfl rfl ?_
            refine z_iconst (pc2 := 2) rfl rfl ?_
            refine z_and_1 (pc2 := 3) rfl rfl ?_
            refine z_iconst (pc2 := 4) rfl rfl ?_
            refine z_icmp_ne (t := 11) (pc2 := 7) rfl rfl rfl (by omega) (by omega) (fun c53 => ?_) (fun c53 => ?_)
            ·
              refine z_iconst (pc2 := 12) rfl rfl ?_
              refine z_zret rfl rfl (by omega) ?_
              show zB _ _ _ _ _ _ [_, _] _ _
              refine z_if_eq (t := 101) (pc2 := 97) rfl rfl rfl (by omega) (fun c54 => ?_) (fun c54 => by exfalso; omega)
              refine z_iconst (pc2 := 102) rfl rfl ?_
              refine z_callV (y2 := 189) (as := [_]) (rest := []) (pc2 := 105) rfl rfl rfl rfl t56 rfl ?_
              refine m_leaves hT (by omega) (by first | omega | (simp [zU] <;> omega)) (fun Iw55 Gw55 w55h fw55 => ?_)
              try simp only [zU] at w55h
              replace fw55 := zFr_tr (I := I) (by repeat (first | exact zFr_rf _ | assumption | refine zFr_a ?_ (by decide) | refine zFr_f ?_ (by decide) | refine zFr_n ?_ (by omega) | refine zFr_h ?_ (by omega) | refine zFr_tok ?_ (by omega))) fw55
              show zB _ _ _ _ _ _ [] _ _
              refine z_aload_n (pc2 := 106) rfl rfl rfl ?_
              refine z_iload_n (pc2 := 107) rfl rfl rfl ?_
              refine z_callV (y2 := 191) (as := [_]) (rest := []) (pc2 := 110) rfl rfl rfl rfl t56 rfl ?_
              refine m_widthOf hT (by omega) (by assumption) (fun w56 => ?_)
              show zB _ _ _ _ _ _ [_] _ _
              refine z_iret rfl rfl ?_
              exact hK _ _ _ (by first | omega | (simp [zU] <;> omega)) (by repeat (first | exact zFr_rf _ | assumption | refine zFr_a ?_ (by decide) | refine zFr_f ?_ (by decide) | refine zFr_n ?_ (by omega) | refine zFr_h ?_ (by omega) | refine zFr_tok ?_ (by omega)))
            ·
              refine z_iconst (pc2 := 8) rfl rfl ?_
              refine z_goto (pc2 := 12) rfl rfl ?_
              refine z_zret rfl rfl (by omega) ?_
              show zB _ _ _ _ _ _ [_, _] _ _
              refine z_if_eq (t := 101) (pc2 := 97) rfl rfl rfl (by omega) (fun c57 => by exfalso; omega) (fun c57 => ?_)
              refine z_iconst (pc2 := 98) rfl rfl ?_
              refine z_goto (pc2 := 102) rfl rfl ?_
              refine z_callV (y2 := 189) (as := [_]) (rest := []) (pc2 := 105) rfl rfl rfl rfl t56 rfl ?_
              refine m_leaves hT (by omega) (by first | omega | (simp [zU] <;> omega)) (fun Iw58 Gw58 w58h fw58 => ?_)
              try simp only [zU] at w58h
              replace fw58 := zFr_tr (I := I) (by repeat (first | exact zFr_rf _ | assumption | refine zFr_a ?_ (by decide) | refine zFr_f ?_ (by decide) | refine zFr_n ?_ (by omega) | refine zFr_h ?_ (by omega) | refine zFr_tok ?_ (by omega))) fw58
              show zB _ _ _ _ _ _ [] _ _
              refine z_aload_n (pc2 := 106) rfl rfl rfl ?_
              refine z_iload_n (pc2 := 107) rfl rfl rfl ?_
              refine z_callV (y2 := 191) (as := [_]) (rest := []) (pc2 := 110) rfl rfl rfl rfl t56 rfl ?_
              refine m_widthOf hT (by omega) (by assumption) (fun w59 => ?_)
              show zB _ _ _ _ _ _ [_] _ _
              refine z_iret rfl rfl ?_
              exact hK _ _ _ (by first | omega | (simp [zU] <;> omega)) (by repeat (first | exact zFr_rf _ | assumption | refine zFr_a ?_ (by decide) | refine zFr_f ?_ (by decide) | refine zFr_n ?_ (by omega) | refine zFr_h ?_ (by omega) | refine zFr_tok ?_ (by omega)))
          ·
            refine z_iconst (pc2 := 8) rfl rfl ?_
            refine z_goto (pc2 := 12) rfl rfl ?_
            refine z_zret rfl rfl (by omega) ?_
            show zB _ _ _ _ _ _ [_, _] _ _
            refine z_if_eq (t := 77) (pc2 := 73) rfl rfl rfl (by omega) (fun c60 => by exfalso; omega) (fun c60 => ?_)
            refine z_iconst (pc2 := 74) rfl rfl ?_
            refine z_goto (pc2 := 78) rfl rfl ?_
            refine z_callV (y2 := 189) (as := [_]) (rest := []) (pc2 := 81) rfl rfl rfl rfl t56 rfl ?_
            refine m_leaves hT (by omega) (by first | omega | (simp [zU] <;> omega)) (fun Iw61 Gw61 w61h fw61 => ?_)
            try simp only [zU] at w61h
            replace fw61 := zFr_tr (I := I) (by repeat (first | exact zFr_rf _ | assumption | refine zFr_a ?_ (by decide) | refine zFr_f ?_ (by decide) | refine zFr_n ?_ (by omega) | refine zFr_h ?_ (by omega) | refine zFr_tok ?_ (by omega))) fw61
            show zB _ _ _ _ _ _ [] _ _
            refine z_iload_n (pc2 := 82) rfl rfl rfl ?_
            refine z_iconst (pc2 := 83) rfl rfl ?_
            refine z_icmp_ne (t := 105) (pc2 := 86) rfl rfl rfl (by omega) (by omega) (fun c62 => by exfalso; omega) (fun c62 => ?_)
            refine z_aload_n (pc2 := 87) rfl rfl rfl ?_
            refine z_iload_n (pc2 := 88) rfl rfl rfl ?_
            refine z_callS (y2 := 174) (as := [_]) (rest := [_]) (pc2 := 91) rfl rfl rfl rfl ?_
            refine z_inl ?_
            refine z_lv (lv2 := [(0, _)]) ⟨rfl, trivial⟩ ?_
            refine z_iload_n (pc2 := 1) rfl rfl rfl ?_
            refine z_bipush (pc2 := 3) rfl rfl (by decide) ?_
            refine z_shr_11 (pc2 := 4) rfl rfl (by omega) ?_
            refine z_sipush (pc2 := 7) rfl rfl (by decide) ?_
            refine z_and_255 (pc2 := 8) rfl rfl ?_
            refine z_iret rfl rfl ?_
            show zB _ _ _ _ _ _ [_, _] _ _
            refine z_callS (y2 := 179) (as := [_]) (rest := [_]) (pc2 := 94) rfl rfl rfl rfl ?_
            refine z_inl ?_
            refine z_lv (lv2 := [(0, _)]) ⟨rfl, trivial⟩ ?_
            refine z_iload_n (pc2 := 1) rfl rfl rfl ?_
            refine z_iconst (pc2 := 2) rfl rfl ?_
            refine z_and_1 (pc2 := 3) rfl rfl ?_
            refine z_iconst (pc2 := 4) rfl rfl ?_
            refine z_icmp_ne (t := 11) (pc2 := 7) rfl rfl rfl (by omega) (by omega) (fun c66 => ?_) (fun c66 => ?_)
            ·
              refine z_iconst (pc2 := 12) rfl rfl ?_
              refine z_zret rfl rfl (by omega) ?_
              show zB _ _ _ _ _ _ [_, _] _ _
              refine z_if_eq (t := 101) (pc2 := 97) rfl rfl rfl (by omega) (fun c67 => ?_) (fun c67 => by exfalso; omega)
              refine z_iconst (pc2 := 102) rfl rfl ?_
              refine z_callV (y2 := 189) (as := [_]) (rest := []) (pc2 := 105) rfl rfl rfl rfl t56 rfl ?_
              refine m_leaves hT (by omega) (by first | omega | (simp [zU] <;> omega)) (fun Iw68 Gw68 w68h fw68 => ?_)
              try simp only [zU] at w68h
              replace fw68 := zFr_tr (I := I) (by repeat (first | exact zFr_rf _ | assumption | refine zFr_a ?_ (by decide) | refine zFr_f ?_ (by decide) | refine zFr_n ?_ (by omega) | refine zFr_h ?_ (by omega) | refine zFr_tok ?_ (by omega))) fw68
              show zB _ _ _ _ _ _ [] _ _
              refine z_aload_n (pc2 := 106) rfl rfl rfl ?_
              refine z_iload_n (pc2 := 107) rfl rfl rfl ?_
              refine z_callV (y2 := 191) (as := [_]) (rest := []) (pc2 := 110) rfl rfl rfl rfl t56 rfl ?_
              refine m_widthOf hT (by omega) (by assumption) (fun w69 => ?_)
              show zB _ _ _ _ _ _ [_] _ _
              refine z_iret rfl rfl ?_
              exact hK _ _ _ (by first | omega | (simp [zU] <;> omega)) (by repeat (first | exact zFr_rf _ | assumption | refine zFr_a ?_ (by decide) | refine zFr_f ?_ (by decide) | refine zFr_n ?_ (by omega) | refine zFr_h ?_ (by omega) | refine zFr_tok ?_ (by omega)))
            ·
              refine z_iconst (pc2 := 8) rfl rfl ?_
              refine z_goto (pc2 := 12) rfl rfl ?_
              refine z_zret rfl rfl (by omega) ?_
              show zB _ _ _ _ _ _ [_, _] _ _
              refine z_if_eq (t := 101) (pc2 := 97) rfl rfl rfl (by omega) (fun c70 => by exfalso; omega) (fun c70 => ?_)
              refine z_iconst (pc2 := 98) rfl rfl ?_
              refine z_goto (pc2 := 102) rfl rfl ?_
              refine z_callV (y2 := 189) (as := [_]) (rest := []) (pc2 := 105) rfl rfl rfl rfl t56 rfl ?_
              refine m_leaves hT (by omega) (by first | omega | (simp [zU] <;> omega)) (fun Iw71 Gw71 w71h fw71 => ?_)
              try simp only [zU] at w71h
              replace fw71 := zFr_tr (I := I) (by repeat (first | exact zFr_rf _ | assumption | refine zFr_a ?_ (by decide) | refine zFr_f ?_ (by decide) | refine zFr_n ?_ (by omega) | refine zFr_h ?_ (by omega) | refine zFr_tok ?_ (by omega))) fw71
              show zB _ _ _ _ _ _ [] _ _
              refine z_aload_n (pc2 := 106) rfl rfl rfl ?_
              refine z_iload_n (pc2 := 107) rfl rfl rfl ?_
              refine z_callV (y2 := 191) (as := [_]) (rest := []) (pc2 := 110) rfl rfl rfl rfl t56 rfl ?_
              refine m_widthOf hT (by omega) (by assumption) (fun w72 => ?_)
              show zB _ _ _ _ _ _ [_] _ _
              refine z_iret rfl rfl ?_
              exact hK _ _ _ (by first | omega | (simp [zU] <;> omega)) (by repeat (first | exact zFr_rf _ | assumption | refine zFr_a ?_ (by decide) | refine zFr_f ?_ (by decide) | refine zFr_n ?_ (by omega) | refine zFr_h ?_ (by omega) | refine zFr_tok ?_ (by omega)))
      ·
        refine z_aload_n (pc2 := 45) rfl rfl rfl ?_
        refine z_iconst (pc2 := 46) rfl rfl ?_
        refine z_callV (y2 := 189) (as := [_]) (rest := []) (pc2 := 49) rfl rfl rfl rfl t56 rfl ?_
        refine m_leaves hT (by omega) (by first | omega | (simp [zU] <;> omega)) (fun Iw73 Gw73 w73h fw73 => ?_)
        try simp only [zU] at w73h
        replace fw73 := zFr_tr (I := I) (by repeat (first | exact zFr_rf _ | assumption | refine zFr_a ?_ (by decide) | refine zFr_f ?_ (by decide) | refine zFr_n ?_ (by omega) | refine zFr_h ?_ (by omega) | refine zFr_tok ?_ (by omega))) fw73
        show zB _ _ _ _ _ _ [] _ _
        refine z_goto (pc2 := 105) rfl rfl ?_
        refine z_aload_n (pc2 := 106) rfl rfl rfl ?_
        refine z_iload_n (pc2 := 107) rfl rfl rfl ?_
        refine z_callV (y2 := 191) (as := [_]) (rest := []) (pc2 := 110) rfl rfl rfl rfl t56 rfl ?_
        refine m_widthOf hT (by omega) (by assumption) (fun w74 => ?_)
        show zB _ _ _ _ _ _ [_] _ _
        refine z_iret rfl rfl ?_
        exact hK _ _ _ (by first | omega | (simp [zU] <;> omega)) (by repeat (first | exact zFr_rf _ | assumption | refine zFr_a ?_ (by decide) | refine zFr_f ?_ (by decide) | refine zFr_n ?_ (by omega) | refine zFr_h ?_ (by omega) | refine zFr_tok ?_ (by omega)))
    ·
      refine z_aload_n (pc2 := 16) rfl rfl rfl ?_
      refine z_iconst (pc2 := 17) rfl rfl ?_
      refine z_callV (y2 := 189) (as := [_]) (rest := []) (pc2 := 20) rfl rfl rfl rfl t56 rfl ?_
      refine m_leaves hT (by omega) (by first | omega | (simp [zU] <;> omega)) (fun Iw75 Gw75 w75h fw75 => ?_)
      try simp only [zU] at w75h
      replace fw75 := zFr_tr (I := I) (by repeat (first | exact zFr_rf _ | assumption | refine zFr_a ?_ (by decide) | refine zFr_f ?_ (by decide) | refine zFr_n ?_ (by omega) | refine zFr_h ?_ (by omega) | refine zFr_tok ?_ (by omega))) fw75
      show zB _ _ _ _ _ _ [] _ _
      refine z_aload_n (pc2 := 21) rfl rfl rfl ?_
      refine z_iload_n (pc2 := 22) rfl rfl rfl ?_
      refine z_iconst (pc2 := 23) rfl rfl ?_
      refine z_icmp_ne (t := 31) (pc2 := 26) rfl rfl rfl (by omega) (by omega) (fun c76 => ?_) (fun c76 => by exfalso; omega)
      refine z_bipush (pc2 := 33) rfl rfl (by decide) ?_
      refine z_callV (y2 := 189) (as := [_]) (rest := []) (pc2 := 36) rfl rfl rfl rfl t56 rfl ?_
      refine m_leaves hT (by omega) (by first | omega | (simp [zU] <;> omega)) (fun Iw77 Gw77 w77h fw77 => ?_)
      try simp only [zU] at w77h
      replace fw77 := zFr_tr (I := I) (by repeat (first | exact zFr_rf _ | assumption | refine zFr_a ?_ (by decide) | refine zFr_f ?_ (by decide) | refine zFr_n ?_ (by omega) | refine zFr_h ?_ (by omega) | refine zFr_tok ?_ (by omega))) fw77
      show zB _ _ _ _ _ _ [] _ _
      refine z_goto (pc2 := 105) rfl rfl ?_
      refine z_aload_n (pc2 := 106) rfl rfl rfl ?_
      refine z_iload_n (pc2 := 107) rfl rfl rfl ?_
      refine z_callV (y2 := 191) (as := [_]) (rest := []) (pc2 := 110) rfl rfl rfl rfl t56 rfl ?_
      refine m_widthOf hT (by omega) (by assumption) (fun w78 => ?_)
      show zB _ _ _ _ _ _ [_] _ _
      refine z_iret rfl rfl ?_
      exact hK _ _ _ (by first | omega | (simp [zU] <;> omega)) (by repeat (first | exact zFr_rf _ | assumption | refine zFr_a ?_ (by decide) | refine zFr_f ?_ (by decide) | refine zFr_n ?_ (by omega) | refine zFr_h ?_ (by omega) | refine zFr_tok ?_ (by omega)))
set_option maxHeartbeats 8000000 in
theorem m_share {L : Nat} {xs : Nat → Int32} {n sl : Nat} {T : Nat → zT} {I : Nat → Nat → Int} {P : Nat → Nat → Option Nat} {G : Nat → Nat → Int} {K : List zV → zH → Prop} {s : Int} (hT : ∀ a, 56 ≤ a → a ≤ 90 → T a = zFix a) (hs : zR s) (htr : I 56 7 ≤ 999990) (hK : ∀ e I2 G2, I2 56 7 ≤ I 56 7 + 2 → zFr I I2 → K [.inl e] (n, sl, T, I2, P, G2)) : zX zMd L xs 193 [.inr (.inl (some 56)), .inl s] (n, sl, T, I, P, G) K := by
  have t56 : T 56 = (1, 12, [1]) := hT 56 (by decide) (by decide)
  refine z_inl ?_
  refine z_lv (lv2 := [(0, _), (1, _)]) ⟨rfl, rfl, trivial⟩ ?_
  refine z_iload_n (pc2 := 1) rfl rfl rfl ?_
  refine z_callS (y2 := 172) (as := [_]) (rest := []) (pc2 := 4) rfl rfl rfl rfl ?_
  refine z_inl ?_
  refine z_lv (lv2 := [(0, _)]) ⟨rfl, trivial⟩ ?_
  refine z_iload_n (pc2 := 1) rfl rfl rfl ?_
  refine z_bipush (pc2 := 3) rfl rfl (by decide) ?_
  refine z_and_7 (pc2 := 4) rfl rfl ?_
  refine z_iconst (pc2 := 5) rfl rfl ?_
  refine z_isub (pc2 := 6) rfl rfl ?_
  refine z_iret rfl rfl ?_
  show zB _ _ _ _ _ _ [_] _ _
  refine z_iconst (pc2 := 5) rfl rfl ?_
  refine z_icmp_ne (t := 14) (pc2 := 8) rfl rfl rfl (by omega) (by omega) (fun c2 => ?_) (fun c2 => ?_)
  ·
    refine z_aload_n (pc2 := 15) rfl rfl rfl ?_
    refine z_bipush (pc2 := 17) rfl rfl (by decide) ?_
    refine z_callV (y2 := 189) (as := [_]) (rest := []) (pc2 := 20) rfl rfl rfl rfl t56 rfl ?_
    refine m_leaves hT (by omega) (by first | omega | (simp [zU] <;> omega)) (fun Iw3 Gw3 w3h fw3 => ?_)
    try simp only [zU] at w3h
    replace fw3 := zFr_tr (I := I) (by repeat (first | exact zFr_rf _ | assumption | refine zFr_a ?_ (by decide) | refine zFr_f ?_ (by decide) | refine zFr_n ?_ (by omega) | refine zFr_h ?_ (by omega) | refine zFr_tok ?_ (by omega))) fw3
    show zB _ _ _ _ _ _ [] _ _
    refine z_iload_n (pc2 := 21) rfl rfl rfl ?_
    refine z_callS (y2 := 172) (as := [_]) (rest := []) (pc2 := 24) rfl rfl rfl rfl ?_
    refine z_inl ?_
    refine z_lv (lv2 := [(0, _)]) ⟨rfl, trivial⟩ ?_
    refine z_iload_n (pc2 := 1) rfl rfl rfl ?_
    refine z_bipush (pc2 := 3) rfl rfl (by decide) ?_
    refine z_and_7 (pc2 := 4) rfl rfl ?_
    refine z_iconst (pc2 := 5) rfl rfl ?_
    refine z_isub (pc2 := 6) rfl rfl ?_
    refine z_iret rfl rfl ?_
    show zB _ _ _ _ _ _ [_] _ _
    refine z_iconst (pc2 := 25) rfl rfl ?_
    refine z_icmp_ne (t := 32) (pc2 := 28) rfl rfl rfl (by omega) (by omega) (fun c5 => ?_) (fun c5 => ?_)
    ·
      refine z_iconst (pc2 := 33) rfl rfl ?_
      refine z_iret rfl rfl ?_
      exact hK _ _ _ (by first | omega | (simp [zU] <;> omega)) (by repeat (first | exact zFr_rf _ | assumption | refine zFr_a ?_ (by decide) | refine zFr_f ?_ (by decide) | refine zFr_n ?_ (by omega) | refine zFr_h ?_ (by omega) | refine zFr_tok ?_ (by omega)))
    ·
      refine z_iconst (pc2 := 29) rfl rfl ?_
      refine z_goto (pc2 := 33) rfl rfl ?_
      refine z_iret rfl rfl ?_
      exact hK _ _ _ (by first | omega | (simp [zU] <;> omega)) (by repeat (first | exact zFr_rf _ | assumption | refine zFr_a ?_ (by decide) | refine zFr_f ?_ (by decide) | refine zFr_n ?_ (by omega) | refine zFr_h ?_ (by omega) | refine zFr_tok ?_ (by omega)))
  ·
    refine z_aload_n (pc2 := 9) rfl rfl rfl ?_
    refine z_bipush (pc2 := 11) rfl rfl (by decide) ?_
    refine z_callV (y2 := 189) (as := [_]) (rest := []) (pc2 := 14) rfl rfl rfl rfl t56 rfl ?_
    refine m_leaves hT (by omega) (by first | omega | (simp [zU] <;> omega)) (fun Iw6 Gw6 w6h fw6 => ?_)
    try simp only [zU] at w6h
    replace fw6 := zFr_tr (I := I) (by repeat (first | exact zFr_rf _ | assumption | refine zFr_a ?_ (by decide) | refine zFr_f ?_ (by decide) | refine zFr_n ?_ (by omega) | refine zFr_h ?_ (by omega) | refine zFr_tok ?_ (by omega))) fw6
    show zB _ _ _ _ _ _ [] _ _
    refine z_aload_n (pc2 := 15) rfl rfl rfl ?_
    refine z_bipush (pc2 := 17) rfl rfl (by decide) ?_
    refine z_callV (y2 := 189) (as := [_]) (rest := []) (pc2 := 20) rfl rfl rfl rfl t56 rfl ?_
    refine m_leaves hT (by omega) (by first | omega | (simp [zU] <;> omega)) (fun Iw7 Gw7 w7h fw7 => ?_)
    try simp only [zU] at w7h
    replace fw7 := zFr_tr (I := I) (by repeat (first | exact zFr_rf _ | assumption | refine zFr_a ?_ (by decide) | refine zFr_f ?_ (by decide) | refine zFr_n ?_ (by omega) | refine zFr_h ?_ (by omega) | refine zFr_tok ?_ (by omega))) fw7
    show zB _ _ _ _ _ _ [] _ _
    refine z_iload_n (pc2 := 21) rfl rfl rfl ?_
    refine z_callS (y2 := 172) (as := [_]) (rest := []) (pc2 := 24) rfl rfl rfl rfl ?_
    refine z_inl ?_
    refine z_lv (lv2 := [(0, _)]) ⟨rfl, trivial⟩ ?_
    refine z_iload_n (pc2 := 1) rfl rfl rfl ?_
    refine z_bipush (pc2 := 3) rfl rfl (by decide) ?_
    refine z_and_7 (pc2 := 4) rfl rfl ?_
    refine z_iconst (pc2 := 5) rfl rfl ?_
    refine z_isub (pc2 := 6) rfl rfl ?_
    refine z_iret rfl rfl ?_
    show zB _ _ _ _ _ _ [_] _ _
    refine z_iconst (pc2 := 25) rfl rfl ?_
    refine z_icmp_ne (t := 32) (pc2 := 28) rfl rfl rfl (by omega) (by omega) (fun c9 => ?_) (fun c9 => ?_)
    ·
      refine z_iconst (pc2 := 33) rfl rfl ?_
      refine z_iret rfl rfl ?_
      exact hK _ _ _ (by first | omega | (simp [zU] <;> omega)) (by repeat (first | exact zFr_rf _ | assumption | refine zFr_a ?_ (by decide) | refine zFr_f ?_ (by decide) | refine zFr_n ?_ (by omega) | refine zFr_h ?_ (by omega) | refine zFr_tok ?_ (by omega)))
    ·
      refine z_iconst (pc2 := 29) rfl rfl ?_
      refine z_goto (pc2 := 33) rfl rfl ?_
      refine z_iret rfl rfl ?_
      exact hK _ _ _ (by first | omega | (simp [zU] <;> omega)) (by repeat (first | exact zFr_rf _ | assumption | refine zFr_a ?_ (by decide) | refine zFr_f ?_ (by decide) | refine zFr_n ?_ (by omega) | refine zFr_h ?_ (by omega) | refine zFr_tok ?_ (by omega)))
set_option maxHeartbeats 8000000 in
theorem m_letterInk {L : Nat} {xs : Nat → Int32} {n sl : Nat} {T : Nat → zT} {I : Nat → Nat → Int} {P : Nat → Nat → Option Nat} {G : Nat → Nat → Int} {K : List zV → zH → Prop} {p : Int} (hT : ∀ a, 56 ≤ a → a ≤ 90 → T a = zFix a) (hp : zR p) (hp0 : 0 ≤ p ∧ p ≤ 255) (hp1 : zPt p) (htr : I 56 7 ≤ 999990) (hK : ∀ e I2 G2, I2 56 7 ≤ I 56 7 + 2 → zFr I I2 → K [.inl e] (n, sl, T, I2, P, G2)) : zX zMd L xs 194 [.inr (.inl (some 56)), .inl p] (n, sl, T, I, P, G) K := by
  have t56 : T 56 = (1, 12, [1]) := hT 56 (by decide) (by decide)
  refine z_inl ?_
  refine z_lv (lv2 := [(0, _), (1, _)]) ⟨rfl, rfl, trivial⟩ ?_
  refine z_iload_n (pc2 := 1) rfl rfl rfl ?_
  refine z_callS (y2 := 179) (as := [_]) (rest := []) (pc2 := 4) rfl rfl rfl rfl ?_
  refine z_inl ?_
  refine z_lv (lv2 := [(0, _)]) ⟨rfl, trivial⟩ ?_
  refine z_iload_n (pc2 := 1) rfl rfl rfl ?_
  refine z_iconst (pc2 := 2) rfl rfl ?_
  refine z_and_1 (pc2 := 3) rfl rfl ?_
  refine z_iconst (pc2 := 4) rfl rfl ?_
  refine z_icmp_ne (t := 11) (pc2 := 7) rfl rfl rfl (by omega) (by omega) (fun c2 => ?_) (fun c2 => ?_)
  ·
    refine z_iconst (pc2 := 12) rfl rfl ?_
    refine z_zret rfl rfl (by omega) ?_
    show zB _ _ _ _ _ _ [_] _ _
    refine z_if_eq (t := 13) (pc2 := 7) rfl rfl rfl (by omega) (fun c3 => ?_) (fun c3 => by exfalso; omega)
    refine z_aload_n (pc2 := 14) rfl rfl rfl ?_
    refine z_bipush (pc2 := 16) rfl rfl (by decide) ?_
    refine z_callV (y2 := 189) (as := [_]) (rest := []) (pc2 := 19) rfl rfl rfl rfl t56 rfl ?_
    refine m_leaves hT (by omega) (by first | omega | (simp [zU] <;> omega)) (fun Iw4 Gw4 w4h fw4 => ?_)
    try simp only [zU] at w4h
    replace fw4 := zFr_tr (I := I) (by repeat (first | exact zFr_rf _ | assumption | refine zFr_a ?_ (by decide) | refine zFr_f ?_ (by decide) | refine zFr_n ?_ (by omega) | refine zFr_h ?_ (by omega) | refine zFr_tok ?_ (by omega))) fw4
    show zB _ _ _ _ _ _ [] _ _
    refine z_iconst (pc2 := 20) rfl rfl ?_
    refine z_aload_n (pc2 := 21) rfl rfl rfl ?_
    refine z_iload_n (pc2 := 22) rfl rfl rfl ?_
    refine z_callV (y2 := 187) (as := [_]) (rest := [_]) (pc2 := 25) rfl rfl rfl rfl t56 rfl ?_
    refine m_firstLetter hT (by omega) (by first | assumption | (refine ⟨?_, ?_⟩ <;> omega)) (fun w5 w5r => ?_)
    show zB _ _ _ _ _ _ [_, _] _ _
    refine z_imul (pc2 := 26) rfl rfl ?_
    refine z_bipush (pc2 := 28) rfl rfl (by decide) ?_
    refine z_iadd (pc2 := 29) rfl rfl ?_
    refine z_iload_n (pc2 := 30) rfl rfl rfl ?_
    refine z_callS (y2 := 179) (as := [_]) (rest := [_]) (pc2 := 33) rfl rfl rfl rfl ?_
    refine z_inl ?_
    refine z_lv (lv2 := [(0, _)]) ⟨rfl, trivial⟩ ?_
    refine z_iload_n (pc2 := 1) rfl rfl rfl ?_
    refine z_iconst (pc2 := 2) rfl rfl ?_
    refine z_and_1 (pc2 := 3) rfl rfl ?_
    refine z_iconst (pc2 := 4) rfl rfl ?_
    refine z_icmp_ne (t := 11) (pc2 := 7) rfl rfl rfl (by omega) (by omega) (fun c7 => ?_) (fun c7 => ?_)
    ·
      refine z_iconst (pc2 := 12) rfl rfl ?_
      refine z_zret rfl rfl (by omega) ?_
      show zB _ _ _ _ _ _ [_, _] _ _
      refine z_if_eq (t := 46) (pc2 := 36) rfl rfl rfl (by omega) (fun c8 => ?_) (fun c8 => by exfalso; omega)
      refine z_iconst (pc2 := 47) rfl rfl ?_
      refine z_iadd (pc2 := 48) rfl rfl ?_
      refine z_iret rfl rfl ?_
      exact hK _ _ _ (by first | omega | (simp [zU] <;> omega)) (by repeat (first | exact zFr_rf _ | assumption | refine zFr_a ?_ (by decide) | refine zFr_f ?_ (by decide) | refine zFr_n ?_ (by omega) | refine zFr_h ?_ (by omega) | refine zFr_tok ?_ (by omega)))
    ·
      refine z_iconst (pc2 := 8) rfl rfl ?_
      refine z_goto (pc2 := 12) rfl rfl ?_
      refine z_zret rfl rfl (by omega) ?_
      show zB _ _ _ _ _ _ [_, _] _ _
      refine z_if_eq (t := 46) (pc2 := 36) rfl rfl rfl (by omega) (fun c9 => by exfalso; omega) (fun c9 => ?_)
      refine z_bipush (pc2 := 38) rfl rfl (by decide) ?_
      refine z_iload_n (pc2 := 39) rfl rfl rfl ?_
      refine z_callS (y2 := 178) (as := [_]) (rest := [_, _]) (pc2 := 42) rfl rfl rfl rfl ?_
      refine z_inl ?_
      refine z_lv (lv2 := [(0, _)]) ⟨rfl, trivial⟩ ?_
      refine z_iload_n (pc2 := 1) rfl rfl rfl ?_
      refine z_iconst (pc2 := 2) rfl rfl ?_
      refine z_shr_3 (pc2 := 3) rfl rfl (by omega) ?_
      refine z_iret rfl rfl ?_
      show zB _ _ _ _ _ _ [_, _, _] _ _
      refine z_iadd (pc2 := 43) rfl rfl ?_
      refine z_goto (pc2 := 47) rfl rfl ?_
      refine z_iadd (pc2 := 48) rfl rfl ?_
      refine z_iret rfl rfl ?_
      exact hK _ _ _ (by first | omega | (simp [zU] <;> omega)) (by repeat (first | exact zFr_rf _ | assumption | refine zFr_a ?_ (by decide) | refine zFr_f ?_ (by decide) | refine zFr_n ?_ (by omega) | refine zFr_h ?_ (by omega) | refine zFr_tok ?_ (by omega)))
  ·
    refine z_iconst (pc2 := 8) rfl rfl ?_
    refine z_goto (pc2 := 12) rfl rfl ?_
    refine z_zret rfl rfl (by omega) ?_
    show zB _ _ _ _ _ _ [_] _ _
    refine z_if_eq (t := 13) (pc2 := 7) rfl rfl rfl (by omega) (fun c11 => by exfalso; omega) (fun c11 => ?_)
    refine z_aload_n (pc2 := 8) rfl rfl rfl ?_
    refine z_bipush (pc2 := 10) rfl rfl (by decide) ?_
    refine z_callV (y2 := 189) (as := [_]) (rest := []) (pc2 := 13) rfl rfl rfl rfl t56 rfl ?_
    refine m_leaves hT (by omega) (by first | omega | (simp [zU] <;> omega)) (fun Iw12 Gw12 w12h fw12 => ?_)
    try simp only [zU] at w12h
    replace fw12 := zFr_tr (I := I) (by repeat (first | exact zFr_rf _ | assumption | refine zFr_a ?_ (by decide) | refine zFr_f ?_ (by decide) | refine zFr_n ?_ (by omega) | refine zFr_h ?_ (by omega) | refine zFr_tok ?_ (by omega))) fw12
    show zB _ _ _ _ _ _ [] _ _
    refine z_aload_n (pc2 := 14) rfl rfl rfl ?_
    refine z_bipush (pc2 := 16) rfl rfl (by decide) ?_
    refine z_callV (y2 := 189) (as := [_]) (rest := []) (pc2 := 19) rfl rfl rfl rfl t56 rfl ?_
    refine m_leaves hT (by omega) (by first | omega | (simp [zU] <;> omega)) (fun Iw13 Gw13 w13h fw13 => ?_)
    try simp only [zU] at w13h
    replace fw13 := zFr_tr (I := I) (by repeat (first | exact zFr_rf _ | assumption | refine zFr_a ?_ (by decide) | refine zFr_f ?_ (by decide) | refine zFr_n ?_ (by omega) | refine zFr_h ?_ (by omega) | refine zFr_tok ?_ (by omega))) fw13
    show zB _ _ _ _ _ _ [] _ _
    refine z_iconst (pc2 := 20) rfl rfl ?_
    refine z_aload_n (pc2 := 21) rfl rfl rfl ?_
    refine z_iload_n (pc2 := 22) rfl rfl rfl ?_
    refine z_callV (y2 := 187) (as := [_]) (rest := [_]) (pc2 := 25) rfl rfl rfl rfl t56 rfl ?_
    refine m_firstLetter hT (by omega) (by first | assumption | (refine ⟨?_, ?_⟩ <;> omega)) (fun w14 w14r => ?_)
    show zB _ _ _ _ _ _ [_, _] _ _
    refine z_imul (pc2 := 26) rfl rfl ?_
    refine z_bipush (pc2 := 28) rfl rfl (by decide) ?_
    refine z_iadd (pc2 := 29) rfl rfl ?_
    refine z_iload_n (pc2 := 30) rfl rfl rfl ?_
    refine z_callS (y2 := 179) (as := [_]) (rest := [_]) (pc2 := 33) rfl rfl rfl rfl ?_
    refine z_inl ?_
    refine z_lv (lv2 := [(0, _)]) ⟨rfl, trivial⟩ ?_
    refine z_iload_n (pc2 := 1) rfl rfl rfl ?_
    refine z_iconst (pc2 := 2) rfl rfl ?_
    refine z_and_1 (pc2 := 3) rfl rfl ?_
    refine z_iconst (pc2 := 4) rfl rfl ?_
    refine z_icmp_ne (t := 11) (pc2 := 7) rfl rfl rfl (by omega) (by omega) (fun c16 => ?_) (fun c16 => ?_)
    ·
      refine z_iconst (pc2 := 12) rfl rfl ?_
      refine z_zret rfl rfl (by omega) ?_
      show zB _ _ _ _ _ _ [_, _] _ _
      refine z_if_eq (t := 46) (pc2 := 36) rfl rfl rfl (by omega) (fun c17 => ?_) (fun c17 => by exfalso; omega)
      refine z_iconst (pc2 := 47) rfl rfl ?_
      refine z_iadd (pc2 := 48) rfl rfl ?_
      refine z_iret rfl rfl ?_
      exact hK _ _ _ (by first | omega | (simp [zU] <;> omega)) (by repeat (first | exact zFr_rf _ | assumption | refine zFr_a ?_ (by decide) | refine zFr_f ?_ (by decide) | refine zFr_n ?_ (by omega) | refine zFr_h ?_ (by omega) | refine zFr_tok ?_ (by omega)))
    ·
      refine z_iconst (pc2 := 8) rfl rfl ?_
      refine z_goto (pc2 := 12) rfl rfl ?_
      refine z_zret rfl rfl (by omega) ?_
      show zB _ _ _ _ _ _ [_, _] _ _
      refine z_if_eq (t := 46) (pc2 := 36) rfl rfl rfl (by omega) (fun c18 => by exfalso; omega) (fun c18 => ?_)
      refine z_bipush (pc2 := 38) rfl rfl (by decide) ?_
      refine z_iload_n (pc2 := 39) rfl rfl rfl ?_
      refine z_callS (y2 := 178) (as := [_]) (rest := [_, _]) (pc2 := 42) rfl rfl rfl rfl ?_
      refine z_inl ?_
      refine z_lv (lv2 := [(0, _)]) ⟨rfl, trivial⟩ ?_
      refine z_iload_n (pc2 := 1) rfl rfl rfl ?_
      refine z_iconst (pc2 := 2) rfl rfl ?_
      refine z_shr_3 (pc2 := 3) rfl rfl (by omega) ?_
      refine z_iret rfl rfl ?_
      show zB _ _ _ _ _ _ [_, _, _] _ _
      refine z_iadd (pc2 := 43) rfl rfl ?_
      refine z_goto (pc2 := 47) rfl rfl ?_
      refine z_iadd (pc2 := 48) rfl rfl ?_
      refine z_iret rfl rfl ?_
      exact hK _ _ _ (by first | omega | (simp [zU] <;> omega)) (by repeat (first | exact zFr_rf _ | assumption | refine zFr_a ?_ (by decide) | refine zFr_f ?_ (by decide) | refine zFr_n ?_ (by omega) | refine zFr_h ?_ (by omega) | refine zFr_tok ?_ (by omega)))
set_option maxHeartbeats 8000000 in
theorem m_ink {L : Nat} {xs : Nat → Int32} {n sl : Nat} {T : Nat → zT} {I : Nat → Nat → Int} {P : Nat → Nat → Option Nat} {G : Nat → Nat → Int} {K : List zV → zH → Prop} {s : Int} (hT : ∀ a, 56 ≤ a → a ≤ 90 → T a = zFix a) (hs : zR s) (hg : zGd s) (htr : I 56 7 ≤ 999980) (hK : ∀ e I2 G2, I2 56 7 ≤ I 56 7 + 5 → zFr I I2 → K [.inl e] (n, sl, T, I2, P, G2)) : zX zMd L xs 195 [.inr (.inl (some 56)), .inl s] (n, sl, T, I, P, G) K := by
  have t56 : T 56 = (1, 12, [1]) := hT 56 (by decide) (by decide)
  have hg' := hg
  unfold zGd at hg'
  refine z_inl ?_
  refine z_lv (lv2 := [(0, _), (1, _)]) ⟨rfl, rfl, trivial⟩ ?_
  refine z_iload_n (pc2 := 1) rfl rfl rfl ?_
  refine z_callS (y2 := 172) (as := [_]) (rest := []) (pc2 := 4) rfl rfl rfl rfl ?_
  refine z_inl ?_
  refine z_lv (lv2 := [(0, _)]) ⟨rfl, trivial⟩ ?_
  refine z_iload_n (pc2 := 1) rfl rfl rfl ?_
  refine z_bipush (pc2 := 3) rfl rfl (by decide) ?_
  refine z_and_7 (pc2 := 4) rfl rfl ?_
  refine z_iconst (pc2 := 5) rfl rfl ?_
  refine z_isub (pc2 := 6) rfl rfl ?_
  refine z_iret rfl rfl ?_
  show zB _ _ _ _ _ _ [_] _ _
  refine z_istore_n (lv2 := [(2, _), (0, _), (1, _)]) (pc2 := 5) rfl rfl rfl rfl ?_
  refine z_iload_n (pc2 := 6) rfl rfl rfl ?_
  refine z_iconst (pc2 := 7) rfl rfl ?_
  refine z_icmp_ne (t := 38) (pc2 := 10) rfl rfl rfl (by omega) (by omega) (fun c2 => ?_) (fun c2 => ?_)
  ·
    refine z_iload_n (pc2 := 39) rfl rfl rfl ?_
    refine z_iconst (pc2 := 40) rfl rfl ?_
    refine z_icmp_eq (t := 48) (pc2 := 43) rfl rfl rfl (by omega) (by omega) (fun c3 => ?_) (fun c3 => ?_)
    ·
      refine z_aload_n (pc2 := 49) rfl rfl rfl ?_
      refine z_bipush (pc2 := 51) rfl rfl (by decide) ?_
      refine z_callV (y2 := 189) (as := [_]) (rest := []) (pc2 := 54) rfl rfl rfl rfl t56 rfl ?_
      refine m_leaves hT (by omega) (by first | omega | (simp [zU] <;> omega)) (fun Iw4 Gw4 w4h fw4 => ?_)
      try simp only [zU] at w4h
      replace fw4 := zFr_tr (I := I) (by repeat (first | exact zFr_rf _ | assumption | refine zFr_a ?_ (by decide) | refine zFr_f ?_ (by decide) | refine zFr_n ?_ (by omega) | refine zFr_h ?_ (by omega) | refine zFr_tok ?_ (by omega))) fw4
      show zB _ _ _ _ _ _ [] _ _
      refine z_aload_n (pc2 := 55) rfl rfl rfl ?_
      refine z_iload_n (pc2 := 56) rfl rfl rfl ?_
      refine z_callV (y2 := 192) (as := [_]) (rest := []) (pc2 := 59) rfl rfl rfl rfl t56 rfl ?_
      refine m_wide hT (by omega) (by assumption) (by first | omega | (simp [zU] <;> omega)) (fun w5 Iw5 Gw5 w5h fw5 => ?_)
      try simp [zU] at w5h
      replace fw5 := zFr_tr (I := I) (by repeat (first | exact zFr_rf _ | assumption | refine zFr_a ?_ (by decide) | refine zFr_f ?_ (by decide) | refine zFr_n ?_ (by omega) | refine zFr_h ?_ (by omega) | refine zFr_tok ?_ (by omega))) fw5
      show zB _ _ _ _ _ _ [_] _ _
      refine z_bipush (pc2 := 61) rfl rfl (by decide) ?_
      refine z_iadd (pc2 := 62) rfl rfl ?_
      refine z_iret rfl rfl ?_
      exact hK _ _ _ (by first | omega | (simp [zU] <;> omega)) (by repeat (first | exact zFr_rf _ | assumption | refine zFr_a ?_ (by decide) | refine zFr_f ?_ (by decide) | refine zFr_n ?_ (by omega) | refine zFr_h ?_ (by omega) | refine zFr_tok ?_ (by omega)))
    ·
      refine z_iload_n (pc2 := 44) rfl rfl rfl ?_
      refine z_iconst (pc2 := 45) rfl rfl ?_
      refine z_icmp_ne (t := 63) (pc2 := 48) rfl rfl rfl (by omega) (by omega) (fun c6 => ?_) (fun c6 => ?_)
      ·
        refine z_aload_n (pc2 := 64) rfl rfl rfl ?_
        refine z_iload_n (pc2 := 65) rfl rfl rfl ?_
        refine z_callS (y2 := 173) (as := [_]) (rest := [_]) (pc2 := 68) rfl rfl rfl rfl ?_
        refine z_inl ?_
        refine z_lv (lv2 := [(0, _)]) ⟨rfl, trivial⟩ ?_
        refine z_iload_n (pc2 := 1) rfl rfl rfl ?_
        refine z_iconst (pc2 := 2) rfl rfl ?_
        refine z_shr_3 (pc2 := 3) rfl rfl (by omega) ?_
        refine z_sipush (pc2 := 6) rfl rfl (by decide) ?_
        refine z_and_255 (pc2 := 7) rfl rfl ?_
        refine z_iret rfl rfl ?_
        show zB _ _ _ _ _ _ [_, _] _ _
        refine z_callV (y2 := 194) (as := [_]) (rest := []) (pc2 := 71) rfl rfl rfl rfl t56 rfl ?_
        refine m_letterInk hT (by omega) (by omega) (by first | assumption | (refine ⟨?_, ?_⟩ <;> omega)) (by first | omega | (simp [zU] <;> omega)) (fun w9 Iw9 Gw9 w9h fw9 => ?_)
        try simp [zU] at w9h
        replace fw9 := zFr_tr (I := I) (by repeat (first | exact zFr_rf _ | assumption | refine zFr_a ?_ (by decide) | refine zFr_f ?_ (by decide) | refine zFr_n ?_ (by omega) | refine zFr_h ?_ (by omega) | refine zFr_tok ?_ (by omega))) fw9
        show zB _ _ _ _ _ _ [_] _ _
        refine z_iret rfl rfl ?_
        exact hK _ _ _ (by first | omega | (simp [zU] <;> omega)) (by repeat (first | exact zFr_rf _ | assumption | refine zFr_a ?_ (by decide) | refine zFr_f ?_ (by decide) | refine zFr_n ?_ (by omega) | refine zFr_h ?_ (by omega) | refine zFr_tok ?_ (by omega)))
      ·
        refine z_aload_n (pc2 := 49) rfl rfl rfl ?_
        refine z_bipush (pc2 := 51) rfl rfl (by decide) ?_
        refine z_callV (y2 := 189) (as := [_]) (rest := []) (pc2 := 54) rfl rfl rfl rfl t56 rfl ?_
        refine m_leaves hT (by omega) (by first | omega | (simp [zU] <;> omega)) (fun Iw10 Gw10 w10h fw10 => ?_)
        try simp only [zU] at w10h
        replace fw10 := zFr_tr (I := I) (by repeat (first | exact zFr_rf _ | assumption | refine zFr_a ?_ (by decide) | refine zFr_f ?_ (by decide) | refine zFr_n ?_ (by omega) | refine zFr_h ?_ (by omega) | refine zFr_tok ?_ (by omega))) fw10
        show zB _ _ _ _ _ _ [] _ _
        refine z_aload_n (pc2 := 55) rfl rfl rfl ?_
        refine z_iload_n (pc2 := 56) rfl rfl rfl ?_
        refine z_callV (y2 := 192) (as := [_]) (rest := []) (pc2 := 59) rfl rfl rfl rfl t56 rfl ?_
        refine m_wide hT (by omega) (by assumption) (by first | omega | (simp [zU] <;> omega)) (fun w11 Iw11 Gw11 w11h fw11 => ?_)
        try simp [zU] at w11h
        replace fw11 := zFr_tr (I := I) (by repeat (first | exact zFr_rf _ | assumption | refine zFr_a ?_ (by decide) | refine zFr_f ?_ (by decide) | refine zFr_n ?_ (by omega) | refine zFr_h ?_ (by omega) | refine zFr_tok ?_ (by omega))) fw11
        show zB _ _ _ _ _ _ [_] _ _
        refine z_bipush (pc2 := 61) rfl rfl (by decide) ?_
        refine z_iadd (pc2 := 62) rfl rfl ?_
        refine z_iret rfl rfl ?_
        exact hK _ _ _ (by first | omega | (simp [zU] <;> omega)) (by repeat (first | exact zFr_rf _ | assumption | refine zFr_a ?_ (by decide) | refine zFr_f ?_ (by decide) | refine zFr_n ?_ (by omega) | refine zFr_h ?_ (by omega) | refine zFr_tok ?_ (by omega)))
  ·
    refine z_aload_n (pc2 := 11) rfl rfl rfl ?_
    refine z_bipush (pc2 := 13) rfl rfl (by decide) ?_
    refine z_callV (y2 := 189) (as := [_]) (rest := []) (pc2 := 16) rfl rfl rfl rfl t56 rfl ?_
    refine m_leaves hT (by omega) (by first | omega | (simp [zU] <;> omega)) (fun Iw12 Gw12 w12h fw12 => ?_)
    try simp only [zU] at w12h
    replace fw12 := zFr_tr (I := I) (by repeat (first | exact zFr_rf _ | assumption | refine zFr_a ?_ (by decide) | refine zFr_f ?_ (by decide) | refine zFr_n ?_ (by omega) | refine zFr_h ?_ (by omega) | refine zFr_tok ?_ (by omega))) fw12
    show zB _ _ _ _ _ _ [] _ _
    refine z_aload_n (pc2 := 17) rfl rfl rfl ?_
    refine z_iload_n (pc2 := 18) rfl rfl rfl ?_
    refine z_callS (y2 := 173) (as := [_]) (rest := [_]) (pc2 := 21) rfl rfl rfl rfl ?_
    refine z_inl ?_
    refine z_lv (lv2 := [(0, _)]) ⟨rfl, trivial⟩ ?_
    refine z_iload_n (pc2 := 1) rfl rfl rfl ?_
    refine z_iconst (pc2 := 2) rfl rfl ?_
    refine z_shr_3 (pc2 := 3) rfl rfl (by omega) ?_
    refine z_sipush (pc2 := 6) rfl rfl (by decide) ?_
    refine z_and_255 (pc2 := 7) rfl rfl ?_
    refine z_iret rfl rfl ?_
    show zB _ _ _ _ _ _ [_, _] _ _
    refine z_callV (y2 := 194) (as := [_]) (rest := []) (pc2 := 24) rfl rfl rfl rfl t56 rfl ?_
    refine m_letterInk hT (by omega) (by omega) (by first | assumption | (refine ⟨?_, ?_⟩ <;> omega)) (by first | omega | (simp [zU] <;> omega)) (fun w15 Iw15 Gw15 w15h fw15 => ?_)
    try simp [zU] at w15h
    replace fw15 := zFr_tr (I := I) (by repeat (first | exact zFr_rf _ | assumption | refine zFr_a ?_ (by decide) | refine zFr_f ?_ (by decide) | refine zFr_n ?_ (by omega) | refine zFr_h ?_ (by omega) | refine zFr_tok ?_ (by omega))) fw15
    show zB _ _ _ _ _ _ [_] _ _
    refine z_istore_n (lv2 := [(3, _), (2, _), (0, _), (1, _)]) (pc2 := 25) rfl rfl rfl rfl ?_
    refine z_iconst (pc2 := 26) rfl rfl ?_
    refine z_iload_n (pc2 := 27) rfl rfl rfl ?_
    refine z_imul (pc2 := 28) rfl rfl ?_
    refine z_aload_n (pc2 := 29) rfl rfl rfl ?_
    refine z_iload_n (pc2 := 30) rfl rfl rfl ?_
    refine z_callS (y2 := 174) (as := [_]) (rest := [_, _]) (pc2 := 33) rfl rfl rfl rfl ?_
    refine z_inl ?_
    refine z_lv (lv2 := [(0, _)]) ⟨rfl, trivial⟩ ?_
    refine z_iload_n (pc2 := 1) rfl rfl rfl ?_
    refine z_bipush (pc2 := 3) rfl rfl (by decide) ?_
    refine z_shr_11 (pc2 := 4) rfl rfl (by omega) ?_
    refine z_sipush (pc2 := 7) rfl rfl (by decide) ?_
    refine z_and_255 (pc2 := 8) rfl rfl ?_
    refine z_iret rfl rfl ?_
    show zB _ _ _ _ _ _ [_, _, _] _ _
    refine z_callV (y2 := 194) (as := [_]) (rest := [_]) (pc2 := 36) rfl rfl rfl rfl t56 rfl ?_
    refine m_letterInk hT (by omega) (by omega) (by first | assumption | (refine ⟨?_, ?_⟩ <;> omega)) (by first | omega | (simp [zU] <;> omega)) (fun w18 Iw18 Gw18 w18h fw18 => ?_)
    try simp [zU] at w18h
    replace fw18 := zFr_tr (I := I) (by repeat (first | exact zFr_rf _ | assumption | refine zFr_a ?_ (by decide) | refine zFr_f ?_ (by decide) | refine zFr_n ?_ (by omega) | refine zFr_h ?_ (by omega) | refine zFr_tok ?_ (by omega))) fw18
    show zB _ _ _ _ _ _ [_, _] _ _
    refine z_iadd (pc2 := 37) rfl rfl ?_
    refine z_iret rfl rfl ?_
    exact hK _ _ _ (by first | omega | (simp [zU] <;> omega)) (by repeat (first | exact zFr_rf _ | assumption | refine zFr_a ?_ (by decide) | refine zFr_f ?_ (by decide) | refine zFr_n ?_ (by omega) | refine zFr_h ?_ (by omega) | refine zFr_tok ?_ (by omega)))
set_option maxHeartbeats 8000000 in
theorem m_sortOf {L : Nat} {xs : Nat → Int32} {n sl : Nat} {T : Nat → zT} {I : Nat → Nat → Int} {P : Nat → Nat → Option Nat} {G : Nat → Nat → Int} {K : List zV → zH → Prop} {a b c : Int} (hT : ∀ a, 56 ≤ a → a ≤ 90 → T a = zFix a) (ha : zR a) (hb : zR b) (hc : zR c) (hK : ∀ e I2 G2, zFr I I2 → K [.inl e] (n, sl, T, I2, P, G2)) : zX zMd L xs 245 [.inr (.inl (some 56)), .inl a, .inl b, .inl c] (n, sl, T, I, P, G) K := by
  have t56 : T 56 = (1, 12, [1]) := hT 56 (by decide) (by decide)
  have t57 : T 57 = (2, 0, [112200, 1]) := hT 57 (by decide) (by decide)
  refine z_inl ?_
  refine z_lv (lv2 := [(0, _), (1, _), (2, _), (3, _)]) ⟨rfl, rfl, rfl, rfl, trivial⟩ ?_
  refine z_aload_n (pc2 := 1) rfl rfl rfl ?_
  refine z_iload_n (pc2 := 2) rfl rfl rfl ?_
  refine z_callV (y2 := 241) (as := [_]) (rest := []) (pc2 := 5) rfl rfl rfl rfl t56 rfl ?_
  refine z_inl ?_
  refine z_lv (lv2 := [(0, _), (1, _)]) ⟨rfl, rfl, trivial⟩ ?_
  refine z_iload_n (pc2 := 1) rfl rfl rfl ?_
  refine z_i2l (pc2 := 2) rfl rfl (by omega) ?_
  refine z_lconst 0 (pc2 := 3) rfl rfl rfl ?_
  refine z_aload_n (pc2 := 4) rfl rfl rfl ?_
  refine z_getP (pc2 := 7) rfl rfl rfl rfl t56 ?_
  intro p1 p1e p1k; replace p1k : p1 = some 57 := p1k; clear p1e; subst p1k
  refine z_aload_n (pc2 := 8) rfl rfl rfl ?_
  refine z_callV (y2 := 162) (as := []) (rest := [_, _, _]) (pc2 := 11) rfl rfl rfl rfl t56 rfl ?_
  refine z_inl ?_
  refine z_lv (lv2 := [(0, _)]) ⟨rfl, trivial⟩ ?_
  refine z_ldc (56100) (pc2 := 2) rfl rfl rfl ?_
  refine z_aload_n (pc2 := 3) rfl rfl rfl ?_
  refine z_getI (pc2 := 6) 0 rfl rfl rfl rfl rfl t56 ?_
  intro v2 e2 r2 k2
  clear e2
  replace k2 : (0 : Int) ≤ v2 ∧ v2 ≤ 1 := k2; clear r2
  refine z_imul (pc2 := 7) rfl rfl ?_
  refine z_iret rfl rfl ?_
  show zB _ _ _ _ _ _ [_, _, _, _] _ _
  refine z_sipush (pc2 := 14) rfl rfl (by decide) ?_
  refine z_iadd (pc2 := 15) rfl rfl ?_
  refine z_iald (pc2 := 16) rfl rfl t57 (by omega) (by omega) (by decide) ?_
  intro v3 e3 r3 k3
  clear e3
  replace k3 := ok_lines k3 (by omega); clear r3
  refine z_iconst (pc2 := 17) rfl rfl ?_
  refine z_isub (pc2 := 18) rfl rfl ?_
  refine z_i2l (pc2 := 19) rfl rfl (by omega) ?_
  refine z_callS (y2 := 157) (as := [_, _, _]) (rest := []) (pc2 := 22) rfl rfl rfl rfl ?_
  refine m_in (by omega) (by omega) (by omega) (fun e4 e4a e4b e4c => ?_)
  show zB _ _ _ _ _ _ [_] _ _
  refine z_zret rfl rfl (by omega) ?_
  show zB _ _ _ _ _ _ [_] _ _
  refine z_if_eq (t := 44) (pc2 := 8) rfl rfl rfl (by omega) (fun c5 => ?_) (fun c5 => ?_)
  ·
    refine z_iconst (pc2 := 45) rfl rfl ?_
    refine z_iret rfl rfl ?_
    exact hK _ _ _ (by repeat (first | exact zFr_rf _ | assumption | refine zFr_a ?_ (by decide) | refine zFr_f ?_ (by decide) | refine zFr_n ?_ (by omega) | refine zFr_h ?_ (by omega) | refine zFr_tok ?_ (by omega)))
  ·
    refine z_iload_n (pc2 := 9) rfl rfl rfl ?_
    refine z_i2l (pc2 := 10) rfl rfl (by omega) ?_
    refine z_lconst 0 (pc2 := 11) rfl rfl rfl ?_
    refine z_aload_n (pc2 := 12) rfl rfl rfl ?_
    refine z_getP (pc2 := 15) rfl rfl rfl rfl t56 ?_
    intro p6 p6e p6k; replace p6k : p6 = some 57 := p6k; clear p6e; subst p6k
    refine z_aload_n (pc2 := 16) rfl rfl rfl ?_
    refine z_iload_n (pc2 := 17) rfl rfl rfl ?_
    refine z_callV (y2 := 238) (as := [_]) (rest := [_, _, _]) (pc2 := 20) rfl rfl rfl rfl t56 rfl ?_
    refine z_inl ?_
    refine z_lv (lv2 := [(0, _), (1, _)]) ⟨rfl, rfl, trivial⟩ ?_
    refine z_aload_n (pc2 := 1) rfl rfl rfl ?_
    refine z_callV (y2 := 162) (as := []) (rest := []) (pc2 := 4) rfl rfl rfl rfl t56 rfl ?_
    refine z_inl ?_
    refine z_lv (lv2 := [(0, _)]) ⟨rfl, trivial⟩ ?_
    refine z_ldc (56100) (pc2 := 2) rfl rfl rfl ?_
    refine z_aload_n (pc2 := 3) rfl rfl rfl ?_
    refine z_getI (pc2 := 6) 0 rfl rfl rfl rfl rfl t56 ?_
    intro v7 e7 r7 k7
    clear e7
    replace k7 : (0 : Int) ≤ v7 ∧ v7 ≤ 1 := k7; clear r7
    refine z_imul (pc2 := 7) rfl rfl ?_
    refine z_iret rfl rfl ?_
    show zB _ _ _ _ _ _ [_] _ _
    refine z_sipush (pc2 := 7) rfl rfl (by decide) ?_
    refine z_iadd (pc2 := 8) rfl rfl ?_
    refine z_bipush (pc2 := 10) rfl rfl (by decide) ?_
    refine z_iload_n (pc2 := 11) rfl rfl rfl ?_
    refine z_imul (pc2 := 12) rfl rfl ?_
    refine z_iadd (pc2 := 13) rfl rfl ?_
    refine z_iret rfl rfl ?_
    show zB _ _ _ _ _ _ [_, _, _, _] _ _
    refine z_iconst (pc2 := 21) rfl rfl ?_
    refine z_iadd (pc2 := 22) rfl rfl ?_
    refine z_iald (pc2 := 23) rfl rfl t57 (by omega) (by omega) (by decide) ?_
    intro v8 e8 r8 k8
    clear e8
    replace k8 := ok_lsorts k8 (by omega); clear r8
    refine z_iconst (pc2 := 24) rfl rfl ?_
    refine z_isub (pc2 := 25) rfl rfl ?_
    refine z_i2l (pc2 := 26) rfl rfl (by omega) ?_
    refine z_callS (y2 := 157) (as := [_, _, _]) (rest := []) (pc2 := 29) rfl rfl rfl rfl ?_
    refine m_in (by omega) (by omega) (by omega) (fun e9 e9a e9b e9c => ?_)
    show zB _ _ _ _ _ _ [_] _ _
    refine z_if_eq (t := 44) (pc2 := 32) rfl rfl rfl (by omega) (fun c10 => ?_) (fun c10 => ?_)
    ·
      refine z_iconst (pc2 := 45) rfl rfl ?_
      refine z_iret rfl rfl ?_
      exact hK _ _ _ (by repeat (first | exact zFr_rf _ | assumption | refine zFr_a ?_ (by decide) | refine zFr_f ?_ (by decide) | refine zFr_n ?_ (by omega) | refine zFr_h ?_ (by omega) | refine zFr_tok ?_ (by omega)))
    ·
      refine z_iload_n (pc2 := 33) rfl rfl rfl ?_
      refine z_i2l (pc2 := 34) rfl rfl (by omega) ?_
      refine z_lconst 0 (pc2 := 35) rfl rfl rfl ?_
      refine z_ldc2 (2) (pc2 := 38) rfl rfl rfl ?_
      refine z_callS (y2 := 157) (as := [_, _, _]) (rest := []) (pc2 := 41) rfl rfl rfl rfl ?_
      refine m_in (by omega) (by omega) (by omega) (fun e11 e11a e11b e11c => ?_)
      show zB _ _ _ _ _ _ [_] _ _
      refine z_if_ne (t := 46) (pc2 := 44) rfl rfl rfl (by omega) (fun c12 => ?_) (fun c12 => ?_)
      ·
        refine z_aload_n (pc2 := 47) rfl rfl rfl ?_
        refine z_getP (pc2 := 50) rfl rfl rfl rfl t56 ?_
        intro p13 p13e p13k; replace p13k : p13 = some 57 := p13k; clear p13e; subst p13k
        refine z_aload_n (pc2 := 51) rfl rfl rfl ?_
        refine z_iload_n (pc2 := 52) rfl rfl rfl ?_
        refine z_callV (y2 := 238) (as := [_]) (rest := [_]) (pc2 := 55) rfl rfl rfl rfl t56 rfl ?_
        refine z_inl ?_
        refine z_lv (lv2 := [(0, _), (1, _)]) ⟨rfl, rfl, trivial⟩ ?_
        refine z_aload_n (pc2 := 1) rfl rfl rfl ?_
        refine z_callV (y2 := 162) (as := []) (rest := []) (pc2 := 4) rfl rfl rfl rfl t56 rfl ?_
        refine z_inl ?_
        refine z_lv (lv2 := [(0, _)]) ⟨rfl, trivial⟩ ?_
        refine z_ldc (56100) (pc2 := 2) rfl rfl rfl ?_
        refine z_aload_n (pc2 := 3) rfl rfl rfl ?_
        refine z_getI (pc2 := 6) 0 rfl rfl rfl rfl rfl t56 ?_
        intro v14 e14 r14 k14
        clear e14
        replace k14 : (0 : Int) ≤ v14 ∧ v14 ≤ 1 := k14; clear r14
        refine z_imul (pc2 := 7) rfl rfl ?_
        refine z_iret rfl rfl ?_
        show zB _ _ _ _ _ _ [_] _ _
        refine z_sipush (pc2 := 7) rfl rfl (by decide) ?_
        refine z_iadd (pc2 := 8) rfl rfl ?_
        refine z_bipush (pc2 := 10) rfl rfl (by decide) ?_
        refine z_iload_n (pc2 := 11) rfl rfl rfl ?_
        refine z_imul (pc2 := 12) rfl rfl ?_
        refine z_iadd (pc2 := 13) rfl rfl ?_
        refine z_iret rfl rfl ?_
        show zB _ _ _ _ _ _ [_, _] _ _
        refine z_bipush (pc2 := 57) rfl rfl (by decide) ?_
        refine z_iadd (pc2 := 58) rfl rfl ?_
        refine z_iload_n (pc2 := 59) rfl rfl rfl ?_
        refine z_iadd (pc2 := 60) rfl rfl ?_
        refine z_iald (pc2 := 61) rfl rfl t57 (by omega) (by omega) (by decide) ?_
        intro v15 e15 r15 k15
        clear e15
        replace k15 := ok_lsort k15 (by omega)
        refine z_istore (lv2 := [(4, _), (0, _), (1, _), (2, _), (3, _)]) (pc2 := 63) rfl rfl rfl rfl ?_
        refine z_iload_n (pc2 := 64) rfl rfl rfl ?_
        refine z_if_ne (t := 75) (pc2 := 67) rfl rfl rfl (by omega) (fun c16 => ?_) (fun c16 => ?_)
        ·
          refine z_iload_n (pc2 := 76) rfl rfl rfl ?_
          refine z_iconst (pc2 := 77) rfl rfl ?_
          refine z_icmp_ne (t := 89) (pc2 := 80) rfl rfl rfl (by omega) (by omega) (fun c17 => ?_) (fun c17 => ?_)
          ·
            refine z_iload (pc2 := 91) rfl rfl rfl ?_
            refine z_callS (y2 := 181) (as := [_]) (rest := []) (pc2 := 94) rfl rfl rfl rfl ?_
            refine m_isStretched (by omega) (fun w18 w18r w18g w18h => ?_)
            show zB _ _ _ _ _ _ [_] _ _
            refine z_if_eq (t := 105) (pc2 := 97) rfl rfl rfl (by omega) (fun c19 => ?_) (fun c19 => ?_)
            ·
              refine z_iconst (pc2 := 106) rfl rfl ?_
              refine z_iret rfl rfl ?_
              exact hK _ _ _ (by repeat (first | exact zFr_rf _ | assumption | refine zFr_a ?_ (by decide) | refine zFr_f ?_ (by decide) | refine zFr_n ?_ (by omega) | refine zFr_h ?_ (by omega) | refine zFr_tok ?_ (by omega)))
            ·
              refine z_iload (pc2 := 99) rfl rfl rfl ?_
              refine z_callS (y2 := 175) (as := [_]) (rest := []) (pc2 := 102) rfl rfl rfl rfl ?_
              refine z_inl ?_
              refine z_lv (lv2 := [(0, _)]) ⟨rfl, trivial⟩ ?_
              refine z_iload_n (pc2 := 1) rfl rfl rfl ?_
              refine z_bipush (pc2 := 3) rfl rfl (by decide) ?_
              refine z_shr_19 (pc2 := 4) rfl rfl (by omega) ?_
              refine z_sipush (pc2 := 7) rfl rfl (by decide) ?_
              refine z_isub (pc2 := 8) rfl rfl ?_
              refine z_iret rfl rfl ?_
              show zB _ _ _ _ _ _ [_] _ _
              refine z_goto (pc2 := 106) rfl rfl ?_
              refine z_iret rfl rfl ?_
              exact hK _ _ _ (by repeat (first | exact zFr_rf _ | assumption | refine zFr_a ?_ (by decide) | refine zFr_f ?_ (by decide) | refine zFr_n ?_ (by omega) | refine zFr_h ?_ (by omega) | refine zFr_tok ?_ (by omega)))
          ·
            refine z_aload_n (pc2 := 81) rfl rfl rfl ?_
            refine z_iload (pc2 := 83) rfl rfl rfl ?_
            refine z_callV (y2 := 216) (as := [_]) (rest := []) (pc2 := 86) rfl rfl rfl rfl t56 rfl ?_
            refine m_coded hT (by omega) (by assumption) (fun w21 => ?_)
            show zB _ _ _ _ _ _ [_] _ _
            refine z_goto (pc2 := 106) rfl rfl ?_
            refine z_iret rfl rfl ?_
            exact hK _ _ _ (by repeat (first | exact zFr_rf _ | assumption | refine zFr_a ?_ (by decide) | refine zFr_f ?_ (by decide) | refine zFr_n ?_ (by omega) | refine zFr_h ?_ (by omega) | refine zFr_tok ?_ (by omega)))
        ·
          refine z_iload (pc2 := 69) rfl rfl rfl ?_
          refine z_callS (y2 := 172) (as := [_]) (rest := []) (pc2 := 72) rfl rfl rfl rfl ?_
          refine z_inl ?_
          refine z_lv (lv2 := [(0, _)]) ⟨rfl, trivial⟩ ?_
          refine z_iload_n (pc2 := 1) rfl rfl rfl ?_
          refine z_bipush (pc2 := 3) rfl rfl (by decide) ?_
          refine z_and_7 (pc2 := 4) rfl rfl ?_
          refine z_iconst (pc2 := 5) rfl rfl ?_
          refine z_isub (pc2 := 6) rfl rfl ?_
          refine z_iret rfl rfl ?_
          show zB _ _ _ _ _ _ [_] _ _
          refine z_goto (pc2 := 106) rfl rfl ?_
          refine z_iret rfl rfl ?_
          exact hK _ _ _ (by repeat (first | exact zFr_rf _ | assumption | refine zFr_a ?_ (by decide) | refine zFr_f ?_ (by decide) | refine zFr_n ?_ (by omega) | refine zFr_h ?_ (by omega) | refine zFr_tok ?_ (by omega)))
      ·
        refine z_iconst (pc2 := 45) rfl rfl ?_
        refine z_iret rfl rfl ?_
        exact hK _ _ _ (by repeat (first | exact zFr_rf _ | assumption | refine zFr_a ?_ (by decide) | refine zFr_f ?_ (by decide) | refine zFr_n ?_ (by omega) | refine zFr_h ?_ (by omega) | refine zFr_tok ?_ (by omega)))
set_option maxHeartbeats 8000000 in
theorem m_ask {L : Nat} {xs : Nat → Int32} {n sl : Nat} {T : Nat → zT} {I : Nat → Nat → Int} {P : Nat → Nat → Option Nat} {G : Nat → Nat → Int} {K : List zV → zH → Prop} {a b : Int} (hT : ∀ a, 56 ≤ a → a ≤ 90 → T a = zFix a) (ha : zR a) (hb : zR b) (hK : ∀ e I2 G2, zFr I I2 → K [.inl e] (n, sl, T, I2, P, G2)) : zX zMd L xs 215 [.inr (.inl (some 56)), .inl a, .inl b] (n, sl, T, I, P, G) K := by
  have t56 : T 56 = (1, 12, [1]) := hT 56 (by decide) (by decide)
  have t57 : T 57 = (2, 0, [112200, 1]) := hT 57 (by decide) (by decide)
  refine z_inl ?_
  refine z_lv (lv2 := [(0, _), (1, _), (2, _)]) ⟨rfl, rfl, rfl, trivial⟩ ?_
  refine z_iload_n (pc2 := 1) rfl rfl rfl ?_
  refine z_callS (y2 := 211) (as := [_]) (rest := []) (pc2 := 4) rfl rfl rfl rfl ?_
  refine z_inl ?_
  refine z_lv (lv2 := [(0, _)]) ⟨rfl, trivial⟩ ?_
  refine z_iload_n (pc2 := 1) rfl rfl rfl ?_
  refine z_i2l (pc2 := 2) rfl rfl (by omega) ?_
  refine z_lconst 0 (pc2 := 3) rfl rfl rfl ?_
  refine z_ldc2 (9) (pc2 := 6) rfl rfl rfl ?_
  refine z_callS (y2 := 157) (as := [_, _, _]) (rest := []) (pc2 := 9) rfl rfl rfl rfl ?_
  refine m_in (by omega) (by omega) (by omega) (fun e1 e1a e1b e1c => ?_)
  show zB _ _ _ _ _ _ [_] _ _
  refine z_zret rfl rfl (by omega) ?_
  show zB _ _ _ _ _ _ [_] _ _
  refine z_if_eq (t := 19) (pc2 := 7) rfl rfl rfl (by omega) (fun c2 => ?_) (fun c2 => ?_)
  ·
    refine z_aload_n (pc2 := 20) rfl rfl rfl ?_
    refine z_iconst (pc2 := 21) rfl rfl ?_
    refine z_callV (y2 := 159) (as := [_]) (rest := []) (pc2 := 24) rfl rfl rfl rfl t56 rfl ?_
    refine z_inl ?_
    refine z_lv (lv2 := [(0, _), (1, _)]) ⟨rfl, rfl, trivial⟩ ?_
    refine z_aload_n (pc2 := 1) rfl rfl rfl ?_
    refine z_iload_n (pc2 := 2) rfl rfl rfl ?_
    refine z_putI (pc2 := 5) rfl rfl rfl rfl rfl rfl t56 (by omega) True.intro ?_
    refine z_iload_n (pc2 := 6) rfl rfl rfl ?_
    refine z_iret rfl rfl ?_
    show zB _ _ _ _ _ _ [_] _ _
    refine z_iret rfl rfl ?_
    exact hK _ _ _ (by repeat (first | exact zFr_rf _ | assumption | refine zFr_a ?_ (by decide) | refine zFr_f ?_ (by decide) | refine zFr_n ?_ (by omega) | refine zFr_h ?_ (by omega) | refine zFr_tok ?_ (by omega)))
  ·
    refine z_iload_n (pc2 := 8) rfl rfl rfl ?_
    refine z_i2l (pc2 := 9) rfl rfl (by omega) ?_
    refine z_lconst 0 (pc2 := 10) rfl rfl rfl ?_
    refine z_ldc2 (6) (pc2 := 13) rfl rfl rfl ?_
    refine z_callS (y2 := 157) (as := [_, _, _]) (rest := []) (pc2 := 16) rfl rfl rfl rfl ?_
    refine m_in (by omega) (by omega) (by omega) (fun e3 e3a e3b e3c => ?_)
    show zB _ _ _ _ _ _ [_] _ _
    refine z_if_ne (t := 25) (pc2 := 19) rfl rfl rfl (by omega) (fun c4 => ?_) (fun c4 => ?_)
    ·
      refine z_aload_n (pc2 := 26) rfl rfl rfl ?_
      refine z_callV (y2 := 161) (as := []) (rest := []) (pc2 := 29) rfl rfl rfl rfl t56 rfl ?_
      refine z_inl ?_
      refine z_lv (lv2 := [(0, _)]) ⟨rfl, trivial⟩ ?_
      refine z_aload_n (pc2 := 1) rfl rfl rfl ?_
      refine z_getI (pc2 := 4) 0 rfl rfl rfl rfl rfl t56 ?_
      intro v5 e5 r5 k5
      clear e5
      clear k5
      refine z_sipush (pc2 := 7) rfl rfl (by decide) ?_
      refine z_icmp_lt (t := 14) (pc2 := 10) rfl rfl rfl (by omega) (by omega) (fun c6 => ?_) (fun c6 => ?_)
      ·
        refine z_iconst (pc2 := 15) rfl rfl ?_
        refine z_zret rfl rfl (by omega) ?_
        show zB _ _ _ _ _ _ [_] _ _
        refine z_if_eq (t := 39) (pc2 := 32) rfl rfl rfl (by omega) (fun c7 => ?_) (fun c7 => by exfalso; omega)
        refine z_aload_n (pc2 := 40) rfl rfl rfl ?_
        refine z_getP (pc2 := 43) rfl rfl rfl rfl t56 ?_
        intro p8 p8e p8k; replace p8k : p8 = some 57 := p8k; clear p8e; subst p8k
        refine z_aload_n (pc2 := 44) rfl rfl rfl ?_
        refine z_callV (y2 := 162) (as := []) (rest := [_]) (pc2 := 47) rfl rfl rfl rfl t56 rfl ?_
        refine z_inl ?_
        refine z_lv (lv2 := [(0, _)]) ⟨rfl, trivial⟩ ?_
        refine z_ldc (56100) (pc2 := 2) rfl rfl rfl ?_
        refine z_aload_n (pc2 := 3) rfl rfl rfl ?_
        refine z_getI (pc2 := 6) 0 rfl rfl rfl rfl rfl t56 ?_
        intro v9 e9 r9 k9
        clear e9
        replace k9 : (0 : Int) ≤ v9 ∧ v9 ≤ 1 := k9; clear r9
        refine z_imul (pc2 := 7) rfl rfl ?_
        refine z_iret rfl rfl ?_
        show zB _ _ _ _ _ _ [_, _] _ _
        refine z_sipush (pc2 := 50) rfl rfl (by decide) ?_
        refine z_iadd (pc2 := 51) rfl rfl ?_
        refine z_iload_n (pc2 := 52) rfl rfl rfl ?_
        refine z_iadd (pc2 := 53) rfl rfl ?_
        refine z_iald (pc2 := 54) rfl rfl t57 (by omega) (by omega) (by decide) ?_
        intro v10 e10 r10 k10
        clear e10
        replace k10 := ok_stick k10 (by omega)
        refine z_istore_n (lv2 := [(3, _), (0, _), (1, _), (2, _)]) (pc2 := 55) rfl rfl rfl rfl ?_
        refine z_iload_n (pc2 := 56) rfl rfl rfl ?_
        refine z_if_ne (t := 65) (pc2 := 59) rfl rfl rfl (by omega) (fun c11 => ?_) (fun c11 => ?_)
        ·
          refine z_iload_n (pc2 := 66) rfl rfl rfl ?_
          refine z_iconst (pc2 := 67) rfl rfl ?_
          refine z_icmp_ne (t := 77) (pc2 := 70) rfl rfl rfl (by omega) (by omega) (fun c12 => ?_) (fun c12 => ?_)
          ·
            refine z_iload_n (pc2 := 78) rfl rfl rfl ?_
            refine z_iconst (pc2 := 79) rfl rfl ?_
            refine z_icmp_ne (t := 98) (pc2 := 82) rfl rfl rfl (by omega) (by omega) (fun c13 => ?_) (fun c13 => ?_)
            ·
              refine z_iload_n (pc2 := 99) rfl rfl rfl ?_
              refine z_iconst (pc2 := 100) rfl rfl ?_
              refine z_icmp_ne (t := 111) (pc2 := 103) rfl rfl rfl (by omega) (by omega) (fun c14 => ?_) (fun c14 => ?_)
              ·
                refine z_iconst (pc2 := 112) rfl rfl ?_
                refine z_goto (pc2 := 116) rfl rfl ?_
                refine z_istore (lv2 := [(4, _), (3, _), (0, _), (1, _), (2, _)]) (pc2 := 118) rfl rfl rfl rfl ?_
                refine z_iload (pc2 := 120) rfl rfl rfl ?_
                refine z_if_ne (t := 129) (pc2 := 123) rfl rfl rfl (by omega) (fun c15 => ?_) (fun c15 => by exfalso; omega)
                refine z_aload_n (pc2 := 130) rfl rfl rfl ?_
                refine z_iconst (pc2 := 131) rfl rfl ?_
                refine z_putI (pc2 := 134) rfl rfl rfl rfl rfl rfl t56 (by omega) (by show (0 : Int) ≤ _ ∧ _ ≤ 1000000; omega) ?_
                refine z_iload_n (pc2 := 135) rfl rfl rfl ?_
                refine z_tsw (td := 235) rfl rfl (by omega) (fun c16 => ?_) (fun j c16j c16h => ?_)
                ·
                  refine z_aload_n (pc2 := 236) rfl rfl rfl ?_
                  refine z_aload_n (pc2 := 237) rfl rfl rfl ?_
                  refine z_iload_n (pc2 := 238) rfl rfl rfl ?_
                  refine z_callV (y2 := 216) (as := [_]) (rest := [_]) (pc2 := 241) rfl rfl rfl rfl t56 rfl ?_
                  refine m_coded hT (by omega) (by assumption) (fun w17 => ?_)
                  show zB _ _ _ _ _ _ [_, _] _ _
                  refine z_callV (y2 := 158) (as := [_]) (rest := []) (pc2 := 244) rfl rfl rfl rfl t56 rfl ?_
                  refine z_inl ?_
                  refine z_lv (lv2 := [(0, _), (1, _)]) ⟨rfl, rfl, trivial⟩ ?_
                  refine z_aload_n (pc2 := 1) rfl rfl rfl ?_
                  refine z_iconst (pc2 := 2) rfl rfl ?_
                  refine z_putI (pc2 := 5) rfl rfl rfl rfl rfl rfl t56 (by omega) True.intro ?_
                  refine z_iload_n (pc2 := 6) rfl rfl rfl ?_
                  refine z_iret rfl rfl ?_
                  show zB _ _ _ _ _ _ [_] _ _
                  refine z_iret rfl rfl ?_
                  exact hK _ _ _ (by repeat (first | exact zFr_rf _ | assumption | refine zFr_a ?_ (by decide) | refine zFr_f ?_ (by decide) | refine zFr_n ?_ (by omega) | refine zFr_h ?_ (by omega) | refine zFr_tok ?_ (by omega)))
                ·
                  have c16t : j = 0 ∨ j = 1 ∨ j = 2 ∨ j = 3 ∨ j = 4 ∨ j = 5 := by omega
                  rcases c16t with rfl | rfl | rfl | rfl | rfl | rfl
                  ·
                    refine ⟨_, 172, rfl, rfl, ?_⟩
                    refine z_aload_n (pc2 := 173) rfl rfl rfl ?_
                    refine z_aload_n (pc2 := 174) rfl rfl rfl ?_
                    refine z_iload_n (pc2 := 175) rfl rfl rfl ?_
                    refine z_callV (y2 := 192) (as := [_]) (rest := [_]) (pc2 := 178) rfl rfl rfl rfl t56 rfl ?_
                    refine m_wide hT (by omega) (by assumption) (by first | omega | (simp [zU] <;> omega)) (fun w18 Iw18 Gw18 w18h fw18 => ?_)
                    try simp [zU] at w18h
                    replace fw18 := zFr_tr (I := I) (by repeat (first | exact zFr_rf _ | assumption | refine zFr_a ?_ (by decide) | refine zFr_f ?_ (by decide) | refine zFr_n ?_ (by omega) | refine zFr_h ?_ (by omega) | refine zFr_tok ?_ (by omega))) fw18
                    show zB _ _ _ _ _ _ [_, _] _ _
                    refine z_callV (y2 := 158) (as := [_]) (rest := []) (pc2 := 181) rfl rfl rfl rfl t56 rfl ?_
                    refine z_inl ?_
                    refine z_lv (lv2 := [(0, _), (1, _)]) ⟨rfl, rfl, trivial⟩ ?_
                    refine z_aload_n (pc2 := 1) rfl rfl rfl ?_
                    refine z_iconst (pc2 := 2) rfl rfl ?_
                    refine z_putI (pc2 := 5) rfl rfl rfl rfl rfl rfl t56 (by omega) True.intro ?_
                    refine z_iload_n (pc2 := 6) rfl rfl rfl ?_
                    refine z_iret rfl rfl ?_
                    show zB _ _ _ _ _ _ [_] _ _
                    refine z_iret rfl rfl ?_
                    exact hK _ _ _ (by repeat (first | exact zFr_rf _ | assumption | refine zFr_a ?_ (by decide) | refine zFr_f ?_ (by decide) | refine zFr_n ?_ (by omega) | refine zFr_h ?_ (by omega) | refine zFr_tok ?_ (by omega)))
                  ·
                    refine ⟨_, 182, rfl, rfl, ?_⟩
                    refine z_aload_n (pc2 := 183) rfl rfl rfl ?_
                    refine z_aload_n (pc2 := 184) rfl rfl rfl ?_
                    refine z_iload_n (pc2 := 185) rfl rfl rfl ?_
                    refine z_callV (y2 := 193) (as := [_]) (rest := [_]) (pc2 := 188) rfl rfl rfl rfl t56 rfl ?_
                    refine m_share hT (by omega) (by first | omega | (simp [zU] <;> omega)) (fun w19 Iw19 Gw19 w19h fw19 => ?_)
                    try simp [zU] at w19h
                    replace fw19 := zFr_tr (I := I) (by repeat (first | exact zFr_rf _ | assumption | refine zFr_a ?_ (by decide) | refine zFr_f ?_ (by decide) | refine zFr_n ?_ (by omega) | refine zFr_h ?_ (by omega) | refine zFr_tok ?_ (by omega))) fw19
                    show zB _ _ _ _ _ _ [_, _] _ _
                    refine z_callV (y2 := 158) (as := [_]) (rest := []) (pc2 := 191) rfl rfl rfl rfl t56 rfl ?_
                    refine z_inl ?_
                    refine z_lv (lv2 := [(0, _), (1, _)]) ⟨rfl, rfl, trivial⟩ ?_
                    refine z_aload_n (pc2 := 1) rfl rfl rfl ?_
                    refine z_iconst (pc2 := 2) rfl rfl ?_
                    refine z_putI (pc2 := 5) rfl rfl rfl rfl rfl rfl t56 (by omega) True.intro ?_
                    refine z_iload_n (pc2 := 6) rfl rfl rfl ?_
                    refine z_iret rfl rfl ?_
                    show zB _ _ _ _ _ _ [_] _ _
                    refine z_iret rfl rfl ?_
                    exact hK _ _ _ (by repeat (first | exact zFr_rf _ | assumption | refine zFr_a ?_ (by decide) | refine zFr_f ?_ (by decide) | refine zFr_n ?_ (by omega) | refine zFr_h ?_ (by omega) | refine zFr_tok ?_ (by omega)))
                  ·
                    refine ⟨_, 192, rfl, rfl, ?_⟩
                    refine z_aload_n (pc2 := 193) rfl rfl rfl ?_
                    refine z_aload_n (pc2 := 194) rfl rfl rfl ?_
                    refine z_iload_n (pc2 := 195) rfl rfl rfl ?_
                    refine z_callV (y2 := 195) (as := [_]) (rest := [_]) (pc2 := 198) rfl rfl rfl rfl t56 rfl ?_
                    refine m_ink hT (by omega) (by assumption) (by first | omega | (simp [zU] <;> omega)) (fun w20 Iw20 Gw20 w20h fw20 => ?_)
                    try simp [zU] at w20h
                    replace fw20 := zFr_tr (I := I) (by repeat (first | exact zFr_rf _ | assumption | refine zFr_a ?_ (by decide) | refine zFr_f ?_ (by decide) | refine zFr_n ?_ (by omega) | refine zFr_h ?_ (by omega) | refine zFr_tok ?_ (by omega))) fw20
                    show zB _ _ _ _ _ _ [_, _] _ _
                    refine z_callV (y2 := 158) (as := [_]) (rest := []) (pc2 := 201) rfl rfl rfl rfl t56 rfl ?_
                    refine z_inl ?_
                    refine z_lv (lv2 := [(0, _), (1, _)]) ⟨rfl, rfl, trivial⟩ ?_
                    refine z_aload_n (pc2 := 1) rfl rfl rfl ?_
                    refine z_iconst (pc2 := 2) rfl rfl ?_
                    refine z_putI (pc2 := 5) rfl rfl rfl rfl rfl rfl t56 (by omega) True.intro ?_
                    refine z_iload_n (pc2 := 6) rfl rfl rfl ?_
                    refine z_iret rfl rfl ?_
                    show zB _ _ _ _ _ _ [_] _ _
                    refine z_iret rfl rfl ?_
                    exact hK _ _ _ (by repeat (first | exact zFr_rf _ | assumption | refine zFr_a ?_ (by decide) | refine zFr_f ?_ (by decide) | refine zFr_n ?_ (by omega) | refine zFr_h ?_ (by omega) | refine zFr_tok ?_ (by omega)))
                  ·
                    refine ⟨_, 202, rfl, rfl, ?_⟩
                    refine z_aload_n (pc2 := 203) rfl rfl rfl ?_
                    refine z_iload_n (pc2 := 204) rfl rfl rfl ?_
                    refine z_callS (y2 := 173) (as := [_]) (rest := [_]) (pc2 := 207) rfl rfl rfl rfl ?_
                    refine z_inl ?_
                    refine z_lv (lv2 := [(0, _)]) ⟨rfl, trivial⟩ ?_
                    refine z_iload_n (pc2 := 1) rfl rfl rfl ?_
                    refine z_iconst (pc2 := 2) rfl rfl ?_
                    refine z_shr_3 (pc2 := 3) rfl rfl (by omega) ?_
                    refine z_sipush (pc2 := 6) rfl rfl (by decide) ?_
                    refine z_and_255 (pc2 := 7) rfl rfl ?_
                    refine z_iret rfl rfl ?_
                    show zB _ _ _ _ _ _ [_, _] _ _
                    refine z_callS (y2 := 178) (as := [_]) (rest := [_]) (pc2 := 210) rfl rfl rfl rfl ?_
                    refine z_inl ?_
                    refine z_lv (lv2 := [(0, _)]) ⟨rfl, trivial⟩ ?_
                    refine z_iload_n (pc2 := 1) rfl rfl rfl ?_
                    refine z_iconst (pc2 := 2) rfl rfl ?_
                    refine z_shr_3 (pc2 := 3) rfl rfl (by omega) ?_
                    refine z_iret rfl rfl ?_
                    show zB _ _ _ _ _ _ [_, _] _ _
                    refine z_callV (y2 := 158) (as := [_]) (rest := []) (pc2 := 213) rfl rfl rfl rfl t56 rfl ?_
                    refine z_inl ?_
                    refine z_lv (lv2 := [(0, _), (1, _)]) ⟨rfl, rfl, trivial⟩ ?_
                    refine z_aload_n (pc2 := 1) rfl rfl rfl ?_
                    refine z_iconst (pc2 := 2) rfl rfl ?_
                    refine z_putI (pc2 := 5) rfl rfl rfl rfl rfl rfl t56 (by omega) True.intro ?_
                    refine z_iload_n (pc2 := 6) rfl rfl rfl ?_
                    refine z_iret rfl rfl ?_
                    show zB _ _ _ _ _ _ [_] _ _
                    refine z_iret rfl rfl ?_
                    exact hK _ _ _ (by repeat (first | exact zFr_rf _ | assumption | refine zFr_a ?_ (by decide) | refine zFr_f ?_ (by decide) | refine zFr_n ?_ (by omega) | refine zFr_h ?_ (by omega) | refine zFr_tok ?_ (by omega)))
                  ·
                    refine ⟨_, 214, rfl, rfl, ?_⟩
                    refine z_aload_n (pc2 := 215) rfl rfl rfl ?_
                    refine z_iload_n (pc2 := 216) rfl rfl rfl ?_
                    refine z_callS (y2 := 172) (as := [_]) (rest := [_]) (pc2 := 219) rfl rfl rfl rfl ?_
                    refine z_inl ?_
                    refine z_lv (lv2 := [(0, _)]) ⟨rfl, trivial⟩ ?_
                    refine z_iload_n (pc2 := 1) rfl rfl rfl ?_
                    refine z_bipush (pc2 := 3) rfl rfl (by decide) ?_
                    refine z_and_7 (pc2 := 4) rfl rfl ?_
                    refine z_iconst (pc2 := 5) rfl rfl ?_
                    refine z_isub (pc2 := 6) rfl rfl ?_
                    refine z_iret rfl rfl ?_
                    show zB _ _ _ _ _ _ [_, _] _ _
                    refine z_callV (y2 := 158) (as := [_]) (rest := []) (pc2 := 222) rfl rfl rfl rfl t56 rfl ?_
                    refine z_inl ?_
                    refine z_lv (lv2 := [(0, _), (1, _)]) ⟨rfl, rfl, trivial⟩ ?_
                    refine z_aload_n (pc2 := 1) rfl rfl rfl ?_
                    refine z_iconst (pc2 := 2) rfl rfl ?_
                    refine z_putI (pc2 := 5) rfl rfl rfl rfl rfl rfl t56 (by omega) True.intro ?_
                    refine z_iload_n (pc2 := 6) rfl rfl rfl ?_
                    refine z_iret rfl rfl ?_
                    show zB _ _ _ _ _ _ [_] _ _
                    refine z_iret rfl rfl ?_
                    exact hK _ _ _ (by repeat (first | exact zFr_rf _ | assumption | refine zFr_a ?_ (by decide) | refine zFr_f ?_ (by decide) | refine zFr_n ?_ (by omega) | refine zFr_h ?_ (by omega) | refine zFr_tok ?_ (by omega)))
                  ·
                    refine ⟨_, 223, rfl, rfl, ?_⟩
                    refine z_aload_n (pc2 := 224) rfl rfl rfl ?_
                    refine z_iload_n (pc2 := 225) rfl rfl rfl ?_
                    refine z_callS (y2 := 173) (as := [_]) (rest := [_]) (pc2 := 228) rfl rfl rfl rfl ?_
                    refine z_inl ?_
                    refine z_lv (lv2 := [(0, _)]) ⟨rfl, trivial⟩ ?_
                    refine z_iload_n (pc2 := 1) rfl rfl rfl ?_
                    refine z_iconst (pc2 := 2) rfl rfl ?_
                    refine z_shr_3 (pc2 := 3) rfl rfl (by omega) ?_
                    refine z_sipush (pc2 := 6) rfl rfl (by decide) ?_
                    refine z_and_255 (pc2 := 7) rfl rfl ?_
                    refine z_iret rfl rfl ?_
                    show zB _ _ _ _ _ _ [_, _] _ _
                    refine z_callS (y2 := 177) (as := [_]) (rest := [_]) (pc2 := 231) rfl rfl rfl rfl ?_
                    refine z_inl ?_
                    refine z_lv (lv2 := [(0, _)]) ⟨rfl, trivial⟩ ?_
                    refine z_iload_n (pc2 := 1) rfl rfl rfl ?_
                    refine z_iconst (pc2 := 2) rfl rfl ?_
                    refine z_shr_1 (pc2 := 3) rfl rfl (by omega) ?_
                    refine z_iconst (pc2 := 4) rfl rfl ?_
                    refine z_and_3 (pc2 := 5) rfl rfl ?_
                    refine z_iret rfl rfl ?_
                    show zB _ _ _ _ _ _ [_, _] _ _
                    refine z_callV (y2 := 158) (as := [_]) (rest := []) (pc2 := 234) rfl rfl rfl rfl t56 rfl ?_
                    refine z_inl ?_
                    refine z_lv (lv2 := [(0, _), (1, _)]) ⟨rfl, rfl, trivial⟩ ?_
                    refine z_aload_n (pc2 := 1) rfl rfl rfl ?_
                    refine z_iconst (pc2 := 2) rfl rfl ?_
                    refine z_putI (pc2 := 5) rfl rfl rfl rfl rfl rfl t56 (by omega) True.intro ?_
                    refine z_iload_n (pc2 := 6) rfl rfl rfl ?_
                    refine z_iret rfl rfl ?_
                    show zB _ _ _ _ _ _ [_] _ _
                    refine z_iret rfl rfl ?_
                    exact hK _ _ _ (by repeat (first | exact zFr_rf _ | assumption | refine zFr_a ?_ (by decide) | refine zFr_f ?_ (by decide) | refine zFr_n ?_ (by omega) | refine zFr_h ?_ (by omega) | refine zFr_tok ?_ (by omega)))
              ·
                refine z_iload_n (pc2 := 104) rfl rfl rfl ?_
                refine z_callS (y2 := 172) (as := [_]) (rest := []) (pc2 := 107) rfl rfl rfl rfl ?_
                refine z_inl ?_
                refine z_lv (lv2 := [(0, _)]) ⟨rfl, trivial⟩ ?_
                refine z_iload_n (pc2 := 1) rfl rfl rfl ?_
                refine z_bipush (pc2 := 3) rfl rfl (by decide) ?_
                refine z_and_7 (pc2 := 4) rfl rfl ?_
                refine z_iconst (pc2 := 5) rfl rfl ?_
                refine z_isub (pc2 := 6) rfl rfl ?_
                refine z_iret rfl rfl ?_
                show zB _ _ _ _ _ _ [_] _ _
                refine z_iconst (pc2 := 108) rfl rfl ?_
                refine z_icmp_ne (t := 115) (pc2 := 111) rfl rfl rfl (by omega) (by omega) (fun c30 => ?_) (fun c30 => ?_)
                ·
                  refine z_iconst (pc2 := 116) rfl rfl ?_
                  refine z_istore (lv2 := [(4, _), (3, _), (0, _), (1, _), (2, _)]) (pc2 := 118) rfl rfl rfl rfl ?_
                  refine z_iload (pc2 := 120) rfl rfl rfl ?_
                  refine z_if_ne (t := 129) (pc2 := 123) rfl rfl rfl (by omega) (fun c31 => by exfalso; omega) (fun c31 => ?_)
                  refine z_aload_n (pc2 := 124) rfl rfl rfl ?_
                  refine z_iconst (pc2 := 125) rfl rfl ?_
                  refine z_callV (y2 := 160) (as := [_]) (rest := []) (pc2 := 128) rfl rfl rfl rfl t56 rfl ?_
                  refine z_inl ?_
                  refine z_lv (lv2 := [(0, _), (1, _)]) ⟨rfl, rfl, trivial⟩ ?_
                  refine z_aload_n (pc2 := 1) rfl rfl rfl ?_
                  refine z_dup (pc2 := 2) rfl rfl rfl ?_
                  refine z_getI (pc2 := 5) 0 rfl rfl rfl rfl rfl t56 ?_
                  intro v32 e32 r32 k32
                  clear e32
                  clear k32
                  refine z_iconst (pc2 := 6) rfl rfl ?_
                  refine z_iadd (pc2 := 7) rfl rfl ?_
                  refine z_putI_any (pc2 := 10) rfl rfl rfl rfl rfl rfl t56 (fun _ _ => True.intro) (fun u33 u33r => ?_); clear u33r
                  refine z_aload_n (pc2 := 11) rfl rfl rfl ?_
                  refine z_bipush (pc2 := 13) rfl rfl (by decide) ?_
                  refine z_iload_n (pc2 := 14) rfl rfl rfl ?_
                  refine z_isub (pc2 := 15) rfl rfl ?_
                  refine z_putI (pc2 := 18) rfl rfl rfl rfl rfl rfl t56 (by omega) True.intro ?_
                  refine z_aload_n (pc2 := 19) rfl rfl rfl ?_
                  refine z_getI (pc2 := 22) 0 rfl rfl rfl rfl rfl t56 ?_
                  intro v34 e34 r34 k34
                  clear e34
                  clear k34
                  refine z_iret rfl rfl ?_
                  show zB _ _ _ _ _ _ [_] _ _
                  refine z_iret rfl rfl ?_
                  exact hK _ _ _ (by repeat (first | exact zFr_rf _ | assumption | refine zFr_a ?_ (by decide) | refine zFr_f ?_ (by decide) | refine zFr_n ?_ (by omega) | refine zFr_h ?_ (by omega) | refine zFr_tok ?_ (by omega)))
                ·
                  refine z_iconst (pc2 := 112) rfl rfl ?_
                  refine z_goto (pc2 := 116) rfl rfl ?_
                  refine z_istore (lv2 := [(4, _), (3, _), (0, _), (1, _), (2, _)]) (pc2 := 118) rfl rfl rfl rfl ?_
                  refine z_iload (pc2 := 120) rfl rfl rfl ?_
                  refine z_if_ne (t := 129) (pc2 := 123) rfl rfl rfl (by omega) (fun c35 => ?_) (fun c35 => by exfalso; omega)
                  refine z_aload_n (pc2 := 130) rfl rfl rfl ?_
                  refine z_iconst (pc2 := 131) rfl rfl ?_
                  refine z_putI (pc2 := 134) rfl rfl rfl rfl rfl rfl t56 (by omega) (by show (0 : Int) ≤ _ ∧ _ ≤ 1000000; omega) ?_
                  refine z_iload_n (pc2 := 135) rfl rfl rfl ?_
                  refine z_tsw (td := 235) rfl rfl (by omega) (fun c36 => ?_) (fun j c36j c36h => ?_)
                  ·
                    exfalso; omega
                  ·
                    have c36t : j = 0 ∨ j = 1 ∨ j = 2 ∨ j = 3 ∨ j = 4 ∨ j = 5 := by omega
                    rcases c36t with rfl | rfl | rfl | rfl | rfl | rfl
                    ·
                      refine ⟨_, 172, rfl, rfl, ?_⟩
                      exfalso; omega
                    ·
                      refine ⟨_, 182, rfl, rfl, ?_⟩
                      exfalso; omega
                    ·
                      refine ⟨_, 192, rfl, rfl, ?_⟩
                      exfalso; omega
                    ·
                      refine ⟨_, 202, rfl, rfl, ?_⟩
                      refine z_aload_n (pc2 := 203) rfl rfl rfl ?_
                      refine z_iload_n (pc2 := 204) rfl rfl rfl ?_
                      refine z_callS (y2 := 173) (as := [_]) (rest := [_]) (pc2 := 207) rfl rfl rfl rfl ?_
                      refine z_inl ?_
                      refine z_lv (lv2 := [(0, _)]) ⟨rfl, trivial⟩ ?_
                      refine z_iload_n (pc2 := 1) rfl rfl rfl ?_
                      refine z_iconst (pc2 := 2) rfl rfl ?_
                      refine z_shr_3 (pc2 := 3) rfl rfl (by omega) ?_
                      refine z_sipush (pc2 := 6) rfl rfl (by decide) ?_
                      refine z_and_255 (pc2 := 7) rfl rfl ?_
                      refine z_iret rfl rfl ?_
                      show zB _ _ _ _ _ _ [_, _] _ _
                      refine z_callS (y2 := 178) (as := [_]) (rest := [_]) (pc2 := 210) rfl rfl rfl rfl ?_
                      refine z_inl ?_
                      refine z_lv (lv2 := [(0, _)]) ⟨rfl, trivial⟩ ?_
                      refine z_iload_n (pc2 := 1) rfl rfl rfl ?_
                      refine z_iconst (pc2 := 2) rfl rfl ?_
                      refine z_shr_3 (pc2 := 3) rfl rfl (by omega) ?_
                      refine z_iret rfl rfl ?_
                      show zB _ _ _ _ _ _ [_, _] _ _
                      refine z_callV (y2 := 158) (as := [_]) (rest := []) (pc2 := 213) rfl rfl rfl rfl t56 rfl ?_
                      refine z_inl ?_
                      refine z_lv (lv2 := [(0, _), (1, _)]) ⟨rfl, rfl, trivial⟩ ?_
                      refine z_aload_n (pc2 := 1) rfl rfl rfl ?_
                      refine z_iconst (pc2 := 2) rfl rfl ?_
                      refine z_putI (pc2 := 5) rfl rfl rfl rfl rfl rfl t56 (by omega) True.intro ?_
                      refine z_iload_n (pc2 := 6) rfl rfl rfl ?_
                      refine z_iret rfl rfl ?_
                      show zB _ _ _ _ _ _ [_] _ _
                      refine z_iret rfl rfl ?_
                      exact hK _ _ _ (by repeat (first | exact zFr_rf _ | assumption | refine zFr_a ?_ (by decide) | refine zFr_f ?_ (by decide) | refine zFr_n ?_ (by omega) | refine zFr_h ?_ (by omega) | refine zFr_tok ?_ (by omega)))
                    ·
                      refine ⟨_, 214, rfl, rfl, ?_⟩
                      exfalso; omega
                    ·
                      refine ⟨_, 223, rfl, rfl, ?_⟩
                      exfalso; omega
            ·
              refine z_iload_n (pc2 := 83) rfl rfl rfl ?_
              refine z_callS (y2 := 172) (as := [_]) (rest := []) (pc2 := 86) rfl rfl rfl rfl ?_
              refine z_inl ?_
              refine z_lv (lv2 := [(0, _)]) ⟨rfl, trivial⟩ ?_
              refine z_iload_n (pc2 := 1) rfl rfl rfl ?_
              refine z_bipush (pc2 := 3) rfl rfl (by decide) ?_
              refine z_and_7 (pc2 := 4) rfl rfl ?_
              refine z_iconst (pc2 := 5) rfl rfl ?_
              refine z_isub (pc2 := 6) rfl rfl ?_
              refine z_iret rfl rfl ?_
              show zB _ _ _ _ _ _ [_] _ _
              refine z_iconst (pc2 := 87) rfl rfl ?_
              refine z_icmp_eq (t := 94) (pc2 := 90) rfl rfl rfl (by omega) (by omega) (fun c41 => ?_) (fun c41 => ?_)
              ·
                refine z_iconst (pc2 := 95) rfl rfl ?_
                refine z_goto (pc2 := 116) rfl rfl ?_
                refine z_istore (lv2 := [(4, _), (3, _), (0, _), (1, _), (2, _)]) (pc2 := 118) rfl rfl rfl rfl ?_
                refine z_iload (pc2 := 120) rfl rfl rfl ?_
                refine z_if_ne (t := 129) (pc2 := 123) rfl rfl rfl (by omega) (fun c42 => by exfalso; omega) (fun c42 => ?_)
                refine z_aload_n (pc2 := 124) rfl rfl rfl ?_
                refine z_iconst (pc2 := 125) rfl rfl ?_
                refine z_callV (y2 := 160) (as := [_]) (rest := []) (pc2 := 128) rfl rfl rfl rfl t56 rfl ?_
                refine z_inl ?_
                refine z_lv (lv2 := [(0, _), (1, _)]) ⟨rfl, rfl, trivial⟩ ?_
                refine z_aload_n (pc2 := 1) rfl rfl rfl ?_
                refine z_dup (pc2 := 2) rfl rfl rfl ?_
                refine z_getI (pc2 := 5) 0 rfl rfl rfl rfl rfl t56 ?_
                intro v43 e43 r43 k43
                clear e43
                clear k43
                refine z_iconst (pc2 := 6) rfl rfl ?_
                refine z_iadd (pc2 := 7) rfl rfl ?_
                refine z_putI_any (pc2 := 10) rfl rfl rfl rfl rfl rfl t56 (fun _ _ => True.intro) (fun u44 u44r => ?_); clear u44r
                refine z_aload_n (pc2 := 11) rfl rfl rfl ?_
                refine z_bipush (pc2 := 13) rfl rfl (by decide) ?_
                refine z_iload_n (pc2 := 14) rfl rfl rfl ?_
                refine z_isub (pc2 := 15) rfl rfl ?_
                refine z_putI (pc2 := 18) rfl rfl rfl rfl rfl rfl t56 (by omega) True.intro ?_
                refine z_aload_n (pc2 := 19) rfl rfl rfl ?_
                refine z_getI (pc2 := 22) 0 rfl rfl rfl rfl rfl t56 ?_
                intro v45 e45 r45 k45
                clear e45
                clear k45
                refine z_iret rfl rfl ?_
                show zB _ _ _ _ _ _ [_] _ _
                refine z_iret rfl rfl ?_
                exact hK _ _ _ (by repeat (first | exact zFr_rf _ | assumption | refine zFr_a ?_ (by decide) | refine zFr_f ?_ (by decide) | refine zFr_n ?_ (by omega) | refine zFr_h ?_ (by omega) | refine zFr_tok ?_ (by omega)))
              ·
                refine z_iconst (pc2 := 91) rfl rfl ?_
                refine z_goto (pc2 := 116) rfl rfl ?_
                refine z_istore (lv2 := [(4, _), (3, _), (0, _), (1, _), (2, _)]) (pc2 := 118) rfl rfl rfl rfl ?_
                refine z_iload (pc2 := 120) rfl rfl rfl ?_
                refine z_if_ne (t := 129) (pc2 := 123) rfl rfl rfl (by omega) (fun c46 => ?_) (fun c46 => by exfalso; omega)
                refine z_aload_n (pc2 := 130) rfl rfl rfl ?_
                refine z_iconst (pc2 := 131) rfl rfl ?_
                refine z_putI (pc2 := 134) rfl rfl rfl rfl rfl rfl t56 (by omega) (by show (0 : Int) ≤ _ ∧ _ ≤ 1000000; omega) ?_
                refine z_iload_n (pc2 := 135) rfl rfl rfl ?_
                refine z_tsw (td := 235) rfl rfl (by omega) (fun c47 => ?_) (fun j c47j c47h => ?_)
                ·
                  exfalso; omega
                ·
                  have c47t : j = 0 ∨ j = 1 ∨ j = 2 ∨ j = 3 ∨ j = 4 ∨ j = 5 := by omega
                  rcases c47t with rfl | rfl | rfl | rfl | rfl | rfl
                  ·
                    refine ⟨_, 172, rfl, rfl, ?_⟩
                    exfalso; omega
                  ·
                    refine ⟨_, 182, rfl, rfl, ?_⟩
                    exfalso; omega
                  ·
                    refine ⟨_, 192, rfl, rfl, ?_⟩
                    refine z_aload_n (pc2 := 193) rfl rfl rfl ?_
                    refine z_aload_n (pc2 := 194) rfl rfl rfl ?_
                    refine z_iload_n (pc2 := 195) rfl rfl rfl ?_
                    refine z_callV (y2 := 195) (as := [_]) (rest := [_]) (pc2 := 198) rfl rfl rfl rfl t56 rfl ?_
                    refine m_ink hT (by omega) (by assumption) (by first | omega | (simp [zU] <;> omega)) (fun w48 Iw48 Gw48 w48h fw48 => ?_)
                    try simp [zU] at w48h
                    replace fw48 := zFr_tr (I := I) (by repeat (first | exact zFr_rf _ | assumption | refine zFr_a ?_ (by decide) | refine zFr_f ?_ (by decide) | refine zFr_n ?_ (by omega) | refine zFr_h ?_ (by omega) | refine zFr_tok ?_ (by omega))) fw48
                    show zB _ _ _ _ _ _ [_, _] _ _
                    refine z_callV (y2 := 158) (as := [_]) (rest := []) (pc2 := 201) rfl rfl rfl rfl t56 rfl ?_
                    refine z_inl ?_
                    refine z_lv (lv2 := [(0, _), (1, _)]) ⟨rfl, rfl, trivial⟩ ?_
                    refine z_aload_n (pc2 := 1) rfl rfl rfl ?_
                    refine z_iconst (pc2 := 2) rfl rfl ?_
                    refine z_putI (pc2 := 5) rfl rfl rfl rfl rfl rfl t56 (by omega) True.intro ?_
                    refine z_iload_n (pc2 := 6) rfl rfl rfl ?_
                    refine z_iret rfl rfl ?_
                    show zB _ _ _ _ _ _ [_] _ _
                    refine z_iret rfl rfl ?_
                    exact hK _ _ _ (by repeat (first | exact zFr_rf _ | assumption | refine zFr_a ?_ (by decide) | refine zFr_f ?_ (by decide) | refine zFr_n ?_ (by omega) | refine zFr_h ?_ (by omega) | refine zFr_tok ?_ (by omega)))
                  ·
                    refine ⟨_, 202, rfl, rfl, ?_⟩
                    exfalso; omega
                  ·
                    refine ⟨_, 214, rfl, rfl, ?_⟩
                    exfalso; omega
                  ·
                    refine ⟨_, 223, rfl, rfl, ?_⟩
                    exfalso; omega
          ·
            refine z_iload_n (pc2 := 71) rfl rfl rfl ?_
            refine z_callS (y2 := 181) (as := [_]) (rest := []) (pc2 := 74) rfl rfl rfl rfl ?_
            refine m_isStretched (by omega) (fun w49 w49r w49g w49h => ?_)
            show zB _ _ _ _ _ _ [_] _ _
            refine z_goto (pc2 := 116) rfl rfl ?_
            refine z_istore (lv2 := [(4, _), (3, _), (0, _), (1, _), (2, _)]) (pc2 := 118) rfl rfl rfl rfl ?_
            refine z_iload (pc2 := 120) rfl rfl rfl ?_
            refine z_if_ne (t := 129) (pc2 := 123) rfl rfl rfl (by omega) (fun c50 => ?_) (fun c50 => ?_)
            ·
              refine z_aload_n (pc2 := 130) rfl rfl rfl ?_
              refine z_iconst (pc2 := 131) rfl rfl ?_
              refine z_putI (pc2 := 134) rfl rfl rfl rfl rfl rfl t56 (by omega) (by show (0 : Int) ≤ _ ∧ _ ≤ 1000000; omega) ?_
              refine z_iload_n (pc2 := 135) rfl rfl rfl ?_
              refine z_tsw (td := 235) rfl rfl (by omega) (fun c51 => ?_) (fun j c51j c51h => ?_)
              ·
                exfalso; omega
              ·
                have c51t : j = 0 ∨ j = 1 ∨ j = 2 ∨ j = 3 ∨ j = 4 ∨ j = 5 := by omega
                rcases c51t with rfl | rfl | rfl | rfl | rfl | rfl
                ·
                  refine ⟨_, 172, rfl, rfl, ?_⟩
                  exfalso; omega
                ·
                  refine ⟨_, 182, rfl, rfl, ?_⟩
                  refine z_aload_n (pc2 := 183) rfl rfl rfl ?_
                  refine z_aload_n (pc2 := 184) rfl rfl rfl ?_
                  refine z_iload_n (pc2 := 185) rfl rfl rfl ?_
                  refine z_callV (y2 := 193) (as := [_]) (rest := [_]) (pc2 := 188) rfl rfl rfl rfl t56 rfl ?_
                  refine m_share hT (by omega) (by first | omega | (simp [zU] <;> omega)) (fun w52 Iw52 Gw52 w52h fw52 => ?_)
                  try simp [zU] at w52h
                  replace fw52 := zFr_tr (I := I) (by repeat (first | exact zFr_rf _ | assumption | refine zFr_a ?_ (by decide) | refine zFr_f ?_ (by decide) | refine zFr_n ?_ (by omega) | refine zFr_h ?_ (by omega) | refine zFr_tok ?_ (by omega))) fw52
                  show zB _ _ _ _ _ _ [_, _] _ _
                  refine z_callV (y2 := 158) (as := [_]) (rest := []) (pc2 := 191) rfl rfl rfl rfl t56 rfl ?_
                  refine z_inl ?_
                  refine z_lv (lv2 := [(0, _), (1, _)]) ⟨rfl, rfl, trivial⟩ ?_
                  refine z_aload_n (pc2 := 1) rfl rfl rfl ?_
                  refine z_iconst (pc2 := 2) rfl rfl ?_
                  refine z_putI (pc2 := 5) rfl rfl rfl rfl rfl rfl t56 (by omega) True.intro ?_
                  refine z_iload_n (pc2 := 6) rfl rfl rfl ?_
                  refine z_iret rfl rfl ?_
                  show zB _ _ _ _ _ _ [_] _ _
                  refine z_iret rfl rfl ?_
                  exact hK _ _ _ (by repeat (first | exact zFr_rf _ | assumption | refine zFr_a ?_ (by decide) | refine zFr_f ?_ (by decide) | refine zFr_n ?_ (by omega) | refine zFr_h ?_ (by omega) | refine zFr_tok ?_ (by omega)))
                ·
                  refine ⟨_, 192, rfl, rfl, ?_⟩
                  exfalso; omega
                ·
                  refine ⟨_, 202, rfl, rfl, ?_⟩
                  exfalso; omega
                ·
                  refine ⟨_, 214, rfl, rfl, ?_⟩
                  exfalso; omega
                ·
                  refine ⟨_, 223, rfl, rfl, ?_⟩
                  exfalso; omega
            ·
              refine z_aload_n (pc2 := 124) rfl rfl rfl ?_
              refine z_iconst (pc2 := 125) rfl rfl ?_
              refine z_callV (y2 := 160) (as := [_]) (rest := []) (pc2 := 128) rfl rfl rfl rfl t56 rfl ?_
              refine z_inl ?_
              refine z_lv (lv2 := [(0, _), (1, _)]) ⟨rfl, rfl, trivial⟩ ?_
              refine z_aload_n (pc2 := 1) rfl rfl rfl ?_
              refine z_dup (pc2 := 2) rfl rfl rfl ?_
              refine z_getI (pc2 := 5) 0 rfl rfl rfl rfl rfl t56 ?_
              intro v53 e53 r53 k53
              clear e53
              clear k53
              refine z_iconst (pc2 := 6) rfl rfl ?_
              refine z_iadd (pc2 := 7) rfl rfl ?_
              refine z_putI_any (pc2 := 10) rfl rfl rfl rfl rfl rfl t56 (fun _ _ => True.intro) (fun u54 u54r => ?_); clear u54r
              refine z_aload_n (pc2 := 11) rfl rfl rfl ?_
              refine z_bipush (pc2 := 13) rfl rfl (by decide) ?_
              refine z_iload_n (pc2 := 14) rfl rfl rfl ?_
              refine z_isub (pc2 := 15) rfl rfl ?_
              refine z_putI (pc2 := 18) rfl rfl rfl rfl rfl rfl t56 (by omega) True.intro ?_
              refine z_aload_n (pc2 := 19) rfl rfl rfl ?_
              refine z_getI (pc2 := 22) 0 rfl rfl rfl rfl rfl t56 ?_
              intro v55 e55 r55 k55
              clear e55
              clear k55
              refine z_iret rfl rfl ?_
              show zB _ _ _ _ _ _ [_] _ _
              refine z_iret rfl rfl ?_
              exact hK _ _ _ (by repeat (first | exact zFr_rf _ | assumption | refine zFr_a ?_ (by decide) | refine zFr_f ?_ (by decide) | refine zFr_n ?_ (by omega) | refine zFr_h ?_ (by omega) | refine zFr_tok ?_ (by omega)))
        ·
          refine z_aload_n (pc2 := 60) rfl rfl rfl ?_
          refine z_iconst (pc2 := 61) rfl rfl ?_
          refine z_callV (y2 := 160) (as := [_]) (rest := []) (pc2 := 64) rfl rfl rfl rfl t56 rfl ?_
          refine z_inl ?_
          refine z_lv (lv2 := [(0, _), (1, _)]) ⟨rfl, rfl, trivial⟩ ?_
          refine z_aload_n (pc2 := 1) rfl rfl rfl ?_
          refine z_dup (pc2 := 2) rfl rfl rfl ?_
          refine z_getI (pc2 := 5) 0 rfl rfl rfl rfl rfl t56 ?_
          intro v56 e56 r56 k56
          clear e56
          clear k56
          refine z_iconst (pc2 := 6) rfl rfl ?_
          refine z_iadd (pc2 := 7) rfl rfl ?_
          refine z_putI_any (pc2 := 10) rfl rfl rfl rfl rfl rfl t56 (fun _ _ => True.intro) (fun u57 u57r => ?_); clear u57r
          refine z_aload_n (pc2 := 11) rfl rfl rfl ?_
          refine z_bipush (pc2 := 13) rfl rfl (by decide) ?_
          refine z_iload_n (pc2 := 14) rfl rfl rfl ?_
          refine z_isub (pc2 := 15) rfl rfl ?_
          refine z_putI (pc2 := 18) rfl rfl rfl rfl rfl rfl t56 (by omega) True.intro ?_
          refine z_aload_n (pc2 := 19) rfl rfl rfl ?_
          refine z_getI (pc2 := 22) 0 rfl rfl rfl rfl rfl t56 ?_
          intro v58 e58 r58 k58
          clear e58
          clear k58
          refine z_iret rfl rfl ?_
          show zB _ _ _ _ _ _ [_] _ _
          refine z_iret rfl rfl ?_
          exact hK _ _ _ (by repeat (first | exact zFr_rf _ | assumption | refine zFr_a ?_ (by decide) | refine zFr_f ?_ (by decide) | refine zFr_n ?_ (by omega) | refine zFr_h ?_ (by omega) | refine zFr_tok ?_ (by omega)))
      ·
        refine z_iconst (pc2 := 11) rfl rfl ?_
        refine z_goto (pc2 := 15) rfl rfl ?_
        refine z_zret rfl rfl (by omega) ?_
        show zB _ _ _ _ _ _ [_] _ _
        refine z_if_eq (t := 39) (pc2 := 32) rfl rfl rfl (by omega) (fun c59 => by exfalso; omega) (fun c59 => ?_)
        refine z_aload_n (pc2 := 33) rfl rfl rfl ?_
        refine z_bipush (pc2 := 35) rfl rfl (by decide) ?_
        refine z_callV (y2 := 159) (as := [_]) (rest := []) (pc2 := 38) rfl rfl rfl rfl t56 rfl ?_
        refine z_inl ?_
        refine z_lv (lv2 := [(0, _), (1, _)]) ⟨rfl, rfl, trivial⟩ ?_
        refine z_aload_n (pc2 := 1) rfl rfl rfl ?_
        refine z_iload_n (pc2 := 2) rfl rfl rfl ?_
        refine z_putI (pc2 := 5) rfl rfl rfl rfl rfl rfl t56 (by omega) True.intro ?_
        refine z_iload_n (pc2 := 6) rfl rfl rfl ?_
        refine z_iret rfl rfl ?_
        show zB _ _ _ _ _ _ [_] _ _
        refine z_iret rfl rfl ?_
        exact hK _ _ _ (by repeat (first | exact zFr_rf _ | assumption | refine zFr_a ?_ (by decide) | refine zFr_f ?_ (by decide) | refine zFr_n ?_ (by omega) | refine zFr_h ?_ (by omega) | refine zFr_tok ?_ (by omega)))
    ·
      refine z_aload_n (pc2 := 20) rfl rfl rfl ?_
      refine z_iconst (pc2 := 21) rfl rfl ?_
      refine z_callV (y2 := 159) (as := [_]) (rest := []) (pc2 := 24) rfl rfl rfl rfl t56 rfl ?_
      refine z_inl ?_
      refine z_lv (lv2 := [(0, _), (1, _)]) ⟨rfl, rfl, trivial⟩ ?_
      refine z_aload_n (pc2 := 1) rfl rfl rfl ?_
      refine z_iload_n (pc2 := 2) rfl rfl rfl ?_
      refine z_putI (pc2 := 5) rfl rfl rfl rfl rfl rfl t56 (by omega) True.intro ?_
      refine z_iload_n (pc2 := 6) rfl rfl rfl ?_
      refine z_iret rfl rfl ?_
      show zB _ _ _ _ _ _ [_] _ _
      refine z_iret rfl rfl ?_
      exact hK _ _ _ (by repeat (first | exact zFr_rf _ | assumption | refine zFr_a ?_ (by decide) | refine zFr_f ?_ (by decide) | refine zFr_n ?_ (by omega) | refine zFr_h ?_ (by omega) | refine zFr_tok ?_ (by omega)))
