/-! the reference: pages are chosen -/
set_option maxHeartbeats 8000000 in
theorem m_isWidow {L : Nat} {xs : Nat → Int32} {n sl : Nat} {T : Nat → zT} {I : Nat → Nat → Int} {P : Nat → Nat → Option Nat} {G : Nat → Nat → Int} {K : List zV → zH → Prop} {l : Int} (hT : ∀ a, 56 ≤ a → a ≤ 90 → T a = zFix a) (hl : 0 ≤ l ∧ l ≤ 99) (hK : ∀ e, (0 ≤ e ∧ e ≤ 1) → K [.inl e] (n, sl, T, I, P, G)) : zX zMd L xs 248 [.inr (.inl (some 56)), .inl l] (n, sl, T, I, P, G) K := by
  have t56 : T 56 = (1, 12, [1]) := hT 56 (by decide) (by decide)
  have t57 : T 57 = (2, 0, [112200, 1]) := hT 57 (by decide) (by decide)
  refine z_inl ?_
  refine z_lv (lv2 := [(0, _), (1, _)]) ⟨rfl, rfl, trivial⟩ ?_
  refine z_aload_n (pc2 := 1) rfl rfl rfl ?_
  refine z_getP (pc2 := 4) rfl rfl rfl rfl t56 ?_
  intro p1 p1e p1k; replace p1k : p1 = some 57 := p1k; clear p1e; subst p1k
  refine z_aload_n (pc2 := 5) rfl rfl rfl ?_
  refine z_iload_n (pc2 := 6) rfl rfl rfl ?_
  refine z_callV (y2 := 238) (as := [_]) (rest := [_]) (pc2 := 9) rfl rfl rfl rfl t56 rfl ?_
  refine z_inl ?_
  refine z_lv (lv2 := [(0, _), (1, _)]) ⟨rfl, rfl, trivial⟩ ?_
  refine z_aload_n (pc2 := 1) rfl rfl rfl ?_
  refine z_callV (y2 := 162) (as := []) (rest := []) (pc2 := 4) rfl rfl rfl rfl t56 rfl ?_
  refine z_inl ?_
  refine z_lv (lv2 := [(0, _)]) ⟨rfl, trivial⟩ ?_
  refine z_ldc (56100) (pc2 := 2) rfl rfl rfl ?_
  refine z_aload_n (pc2 := 3) rfl rfl rfl ?_
  refine z_getI (pc2 := 6) 0 rfl rfl rfl rfl rfl t56 ?_
  intro v2 e2 r2 k2
  clear e2
  replace k2 : (0 : Int) ≤ v2 ∧ v2 ≤ 1 := k2; clear r2
  refine z_imul (pc2 := 7) rfl rfl ?_
  refine z_iret rfl rfl ?_
  show zB _ _ _ _ _ _ [_] _ _
  refine z_sipush (pc2 := 7) rfl rfl (by decide) ?_
  refine z_iadd (pc2 := 8) rfl rfl ?_
  refine z_bipush (pc2 := 10) rfl rfl (by decide) ?_
  refine z_iload_n (pc2 := 11) rfl rfl rfl ?_
  refine z_imul (pc2 := 12) rfl rfl ?_
  refine z_iadd (pc2 := 13) rfl rfl ?_
  refine z_iret rfl rfl ?_
  show zB _ _ _ _ _ _ [_, _] _ _
  refine z_bipush (pc2 := 11) rfl rfl (by decide) ?_
  refine z_iadd (pc2 := 12) rfl rfl ?_
  refine z_iald (pc2 := 13) rfl rfl t57 (by omega) (by omega) (by decide) ?_
  intro v3 e3 r3 k3
  clear e3
  clear k3
  refine z_iconst (pc2 := 14) rfl rfl ?_
  refine z_icmp_ne (t := 38) (pc2 := 17) rfl rfl rfl (by omega) (by omega) (fun c4 => ?_) (fun c4 => ?_)
  ·
    refine z_iconst (pc2 := 39) rfl rfl ?_
    refine z_zret rfl rfl (by omega) ?_
    exact hK _ (by omega)
  ·
    refine z_aload_n (pc2 := 18) rfl rfl rfl ?_
    refine z_getP (pc2 := 21) rfl rfl rfl rfl t56 ?_
    intro p5 p5e p5k; replace p5k : p5 = some 57 := p5k; clear p5e; subst p5k
    refine z_aload_n (pc2 := 22) rfl rfl rfl ?_
    refine z_iload_n (pc2 := 23) rfl rfl rfl ?_
    refine z_callV (y2 := 238) (as := [_]) (rest := [_]) (pc2 := 26) rfl rfl rfl rfl t56 rfl ?_
    refine z_inl ?_
    refine z_lv (lv2 := [(0, _), (1, _)]) ⟨rfl, rfl, trivial⟩ ?_
    refine z_aload_n (pc2 := 1) rfl rfl rfl ?_
    refine z_callV (y2 := 162) (as := []) (rest := []) (pc2 := 4) rfl rfl rfl rfl t56 rfl ?_
    refine z_inl ?_
    refine z_lv (lv2 := [(0, _)]) ⟨rfl, trivial⟩ ?_
    refine z_ldc (56100) (pc2 := 2) rfl rfl rfl ?_
    refine z_aload_n (pc2 := 3) rfl rfl rfl ?_
    refine z_getI (pc2 := 6) 0 rfl rfl rfl rfl rfl t56 ?_
    intro v6 e6 r6 k6
    clear e6
    replace k6 : (0 : Int) ≤ v6 ∧ v6 ≤ 1 := k6; clear r6
    refine z_imul (pc2 := 7) rfl rfl ?_
    refine z_iret rfl rfl ?_
    show zB _ _ _ _ _ _ [_] _ _
    refine z_sipush (pc2 := 7) rfl rfl (by decide) ?_
    refine z_iadd (pc2 := 8) rfl rfl ?_
    refine z_bipush (pc2 := 10) rfl rfl (by decide) ?_
    refine z_iload_n (pc2 := 11) rfl rfl rfl ?_
    refine z_imul (pc2 := 12) rfl rfl ?_
    refine z_iadd (pc2 := 13) rfl rfl ?_
    refine z_iret rfl rfl ?_
    show zB _ _ _ _ _ _ [_, _] _ _
    refine z_bipush (pc2 := 28) rfl rfl (by decide) ?_
    refine z_iadd (pc2 := 29) rfl rfl ?_
    refine z_iald (pc2 := 30) rfl rfl t57 (by omega) (by omega) (by decide) ?_
    intro v7 e7 r7 k7
    clear e7
    clear k7
    refine z_iconst (pc2 := 31) rfl rfl ?_
    refine z_icmp_le (t := 38) (pc2 := 34) rfl rfl rfl (by omega) (by omega) (fun c8 => ?_) (fun c8 => ?_)
    ·
      refine z_iconst (pc2 := 39) rfl rfl ?_
      refine z_zret rfl rfl (by omega) ?_
      exact hK _ (by omega)
    ·
      refine z_iconst (pc2 := 35) rfl rfl ?_
      refine z_goto (pc2 := 39) rfl rfl ?_
      refine z_zret rfl rfl (by omega) ?_
      exact hK _ (by omega)
set_option maxHeartbeats 8000000 in
theorem m_isOrphan {L : Nat} {xs : Nat → Int32} {n sl : Nat} {T : Nat → zT} {I : Nat → Nat → Int} {P : Nat → Nat → Option Nat} {G : Nat → Nat → Int} {K : List zV → zH → Prop} {l : Int} (hT : ∀ a, 56 ≤ a → a ≤ 90 → T a = zFix a) (hl : 0 ≤ l ∧ l ≤ 99) (hK : ∀ e, (0 ≤ e ∧ e ≤ 1) → K [.inl e] (n, sl, T, I, P, G)) : zX zMd L xs 249 [.inr (.inl (some 56)), .inl l] (n, sl, T, I, P, G) K := by
  have t56 : T 56 = (1, 12, [1]) := hT 56 (by decide) (by decide)
  have t57 : T 57 = (2, 0, [112200, 1]) := hT 57 (by decide) (by decide)
  refine z_inl ?_
  refine z_lv (lv2 := [(0, _), (1, _)]) ⟨rfl, rfl, trivial⟩ ?_
  refine z_aload_n (pc2 := 1) rfl rfl rfl ?_
  refine z_getP (pc2 := 4) rfl rfl rfl rfl t56 ?_
  intro p1 p1e p1k; replace p1k : p1 = some 57 := p1k; clear p1e; subst p1k
  refine z_aload_n (pc2 := 5) rfl rfl rfl ?_
  refine z_iload_n (pc2 := 6) rfl rfl rfl ?_
  refine z_callV (y2 := 238) (as := [_]) (rest := [_]) (pc2 := 9) rfl rfl rfl rfl t56 rfl ?_
  refine z_inl ?_
  refine z_lv (lv2 := [(0, _), (1, _)]) ⟨rfl, rfl, trivial⟩ ?_
  refine z_aload_n (pc2 := 1) rfl rfl rfl ?_
  refine z_callV (y2 := 162) (as := []) (rest := []) (pc2 := 4) rfl rfl rfl rfl t56 rfl ?_
  refine z_inl ?_
  refine z_lv (lv2 := [(0, _)]) ⟨rfl, trivial⟩ ?_
  refine z_ldc (56100) (pc2 := 2) rfl rfl rfl ?_
  refine z_aload_n (pc2 := 3) rfl rfl rfl ?_
  refine z_getI (pc2 := 6) 0 rfl rfl rfl rfl rfl t56 ?_
  intro v2 e2 r2 k2
  clear e2
  replace k2 : (0 : Int) ≤ v2 ∧ v2 ≤ 1 := k2; clear r2
  refine z_imul (pc2 := 7) rfl rfl ?_
  refine z_iret rfl rfl ?_
  show zB _ _ _ _ _ _ [_] _ _
  refine z_sipush (pc2 := 7) rfl rfl (by decide) ?_
  refine z_iadd (pc2 := 8) rfl rfl ?_
  refine z_bipush (pc2 := 10) rfl rfl (by decide) ?_
  refine z_iload_n (pc2 := 11) rfl rfl rfl ?_
  refine z_imul (pc2 := 12) rfl rfl ?_
  refine z_iadd (pc2 := 13) rfl rfl ?_
  refine z_iret rfl rfl ?_
  show zB _ _ _ _ _ _ [_, _] _ _
  refine z_iconst (pc2 := 10) rfl rfl ?_
  refine z_iadd (pc2 := 11) rfl rfl ?_
  refine z_iald (pc2 := 12) rfl rfl t57 (by omega) (by omega) (by decide) ?_
  intro v3 e3 r3 k3
  clear e3
  clear k3
  refine z_if_ne (t := 36) (pc2 := 15) rfl rfl rfl (by omega) (fun c4 => ?_) (fun c4 => ?_)
  ·
    refine z_iconst (pc2 := 37) rfl rfl ?_
    refine z_zret rfl rfl (by omega) ?_
    exact hK _ (by omega)
  ·
    refine z_aload_n (pc2 := 16) rfl rfl rfl ?_
    refine z_getP (pc2 := 19) rfl rfl rfl rfl t56 ?_
    intro p5 p5e p5k; replace p5k : p5 = some 57 := p5k; clear p5e; subst p5k
    refine z_aload_n (pc2 := 20) rfl rfl rfl ?_
    refine z_iload_n (pc2 := 21) rfl rfl rfl ?_
    refine z_callV (y2 := 238) (as := [_]) (rest := [_]) (pc2 := 24) rfl rfl rfl rfl t56 rfl ?_
    refine z_inl ?_
    refine z_lv (lv2 := [(0, _), (1, _)]) ⟨rfl, rfl, trivial⟩ ?_
    refine z_aload_n (pc2 := 1) rfl rfl rfl ?_
    refine z_callV (y2 := 162) (as := []) (rest := []) (pc2 := 4) rfl rfl rfl rfl t56 rfl ?_
    refine z_inl ?_
    refine z_lv (lv2 := [(0, _)]) ⟨rfl, trivial⟩ ?_
    refine z_ldc (56100) (pc2 := 2) rfl rfl rfl ?_
    refine z_aload_n (pc2 := 3) rfl rfl rfl ?_
    refine z_getI (pc2 := 6) 0 rfl rfl rfl rfl rfl t56 ?_
    intro v6 e6 r6 k6
    clear e6
    replace k6 : (0 : Int) ≤ v6 ∧ v6 ≤ 1 := k6; clear r6
    refine z_imul (pc2 := 7) rfl rfl ?_
    refine z_iret rfl rfl ?_
    show zB _ _ _ _ _ _ [_] _ _
    refine z_sipush (pc2 := 7) rfl rfl (by decide) ?_
    refine z_iadd (pc2 := 8) rfl rfl ?_
    refine z_bipush (pc2 := 10) rfl rfl (by decide) ?_
    refine z_iload_n (pc2 := 11) rfl rfl rfl ?_
    refine z_imul (pc2 := 12) rfl rfl ?_
    refine z_iadd (pc2 := 13) rfl rfl ?_
    refine z_iret rfl rfl ?_
    show zB _ _ _ _ _ _ [_, _] _ _
    refine z_bipush (pc2 := 26) rfl rfl (by decide) ?_
    refine z_iadd (pc2 := 27) rfl rfl ?_
    refine z_iald (pc2 := 28) rfl rfl t57 (by omega) (by omega) (by decide) ?_
    intro v7 e7 r7 k7
    clear e7
    clear k7
    refine z_iconst (pc2 := 29) rfl rfl ?_
    refine z_icmp_le (t := 36) (pc2 := 32) rfl rfl rfl (by omega) (by omega) (fun c8 => ?_) (fun c8 => ?_)
    ·
      refine z_iconst (pc2 := 37) rfl rfl ?_
      refine z_zret rfl rfl (by omega) ?_
      exact hK _ (by omega)
    ·
      refine z_iconst (pc2 := 33) rfl rfl ?_
      refine z_goto (pc2 := 37) rfl rfl ?_
      refine z_zret rfl rfl (by omega) ?_
      exact hK _ (by omega)
set_option maxHeartbeats 8000000 in
theorem l_choosePages2 {L : Nat} {xs : Nat → Int32} {n sl : Nat} {T : Nat → zT} {I : Nat → Nat → Int} {P : Nat → Nat → Option Nat} {K : List zV → zH → Prop} {x w q a : Int} (hT : ∀ a, 56 ≤ a → a ≤ 90 → T a = zFix a) (hx : 1 ≤ x ∧ x ≤ 60) (hw : 1 ≤ w ∧ w ≤ 40) (hq : 0 ≤ q ∧ q ≤ 1) (ha : 0 ≤ a ∧ a ≤ 39) (haw : a < w) (hq3 : I 56 3 = q) (hht : zHt q w I) (hE : ∀ (I2 G2 : Nat → Nat → Int), zPq I I2 → zPm w (a + -1) I2 → zB zMd L xs 250 11 [(0, .inr (.inl (some 56))), (1, .inl x), (2, .inl w), (3, .inl (a + -1))] [] (n, sl, T, I2, P, G2) K) (hK : True) (m : Nat) : ∀ (I2 : Nat → Nat → Int) (G2 : Nat → Nat → Int), ∀ (z c H2 : Int), I2 56 44 = H2 → 0 ≤ z ∧ z ≤ 1 → 1 ≤ c ∧ c ≤ 41 → 0 ≤ H2 ∧ H2 ≤ 10000 → zPq I I2 → c - 1 ≤ H2 ∧ H2 ≤ 111 * (c - 1) ∧ a + c ≤ w + 1 → zNp I2 → zPm w a I2 → (c = 1 ∨ (1 ≤ I2 89 a.toNat ∧ I2 89 a.toNat ≤ 60 ∧ a + I2 89 a.toNat ≤ w)) → (c = 1 → z = 1) → (41 - c).toNat < m → zB zMd L xs 250 32 [(0, .inr (.inl (some 56))), (1, .inl x), (2, .inl w), (3, .inl a), (4, .inl z), (5, .inl c)] [] (n, sl, T, I2, P, G2) K := by
  have t56 : T 56 = (1, 12, [1]) := hT 56 (by decide) (by decide)
  have t89 : T 89 = (2, 0, [100, 14]) := hT 89 (by decide) (by decide)
  have t90 : T 90 = (2, 1, [101, 0]) := hT 90 (by decide) (by decide)
  induction m with
  | zero => intro I2 G2 z c H2 hH3 hz hc hH2 hI2 hb3 hn3 hm3 ho3 hz3 hm; omega
  | succ m ih =>
    intro I2 G2 z c H2 hH3 hz hc hH2 hI2 hb3 hn3 hm3 ho3 hz3 hm
    refine z_iload_n (pc2 := 33) rfl rfl rfl ?_
    refine z_iload (pc2 := 35) rfl rfl rfl ?_
    refine z_iadd (pc2 := 36) rfl rfl ?_
    refine z_iload_n (pc2 := 37) rfl rfl rfl ?_
    refine z_icmp_gt (t := 228) (pc2 := 40) rfl rfl rfl (by omega) (by omega) (fun c1 => ?_) (fun c1 => ?_)
    ·
      refine z_iinc (lv2 := [(3, _), (0, _), (1, _), (2, _), (4, _), (5, _)]) (pc2 := 231) rfl rfl rfl rfl rfl ?_
      refine z_goto (pc2 := 11) rfl rfl ?_
      refine z_lv (lv2 := [(0, _), (1, _), (2, _), (3, _)]) ⟨rfl, rfl, rfl, rfl, trivial⟩ ?_
      exact hE _ _ hI2 (zPm_out hm3 (by omega))
    ·
      refine z_iload (pc2 := 42) rfl rfl rfl ?_
      refine z_if_eq (t := 228) (pc2 := 45) rfl rfl rfl (by omega) (fun c2 => ?_) (fun c2 => ?_)
      ·
        refine z_iinc (lv2 := [(3, _), (0, _), (1, _), (2, _), (4, _), (5, _)]) (pc2 := 231) rfl rfl rfl rfl rfl ?_
        refine z_goto (pc2 := 11) rfl rfl ?_
        refine z_lv (lv2 := [(0, _), (1, _), (2, _), (3, _)]) ⟨rfl, rfl, rfl, rfl, trivial⟩ ?_
        exact hE _ _ hI2 (zPm_out hm3 (by omega))
      ·
        refine z_aload_n (pc2 := 46) rfl rfl rfl ?_
        refine z_iload_n (pc2 := 47) rfl rfl rfl ?_
        refine z_iload (pc2 := 49) rfl rfl rfl ?_
        refine z_iadd (pc2 := 50) rfl rfl ?_
        refine z_iconst (pc2 := 51) rfl rfl ?_
        refine z_isub (pc2 := 52) rfl rfl ?_
        refine z_callV (y2 := 247) (as := [_]) (rest := []) (pc2 := 55) rfl rfl rfl rfl t56 rfl ?_
        refine m_pageTakes (q := q) (H := H2) hT (by omega) (by omega) (by omega) (zPq_k hI2 (by decide) hq3) hH3 hn3 (zHt_q hht hI2 (a + c - 1) (by omega) (by omega)) (fun Iw3 Gw3 Hw3 pw3 nw3 hw3 bw3 => ?_)
        have xw3 := zPq_tr hI2 (zPq_p pw3); have mw3 := zPm_p hm3 pw3; have qw3 := zPq_k xw3 (by decide) hq3
        have ow3 : c = 1 ∨ (1 ≤ Iw3 89 a.toNat ∧ Iw3 89 a.toNat ≤ 60 ∧ a + Iw3 89 a.toNat ≤ w) := by rw [(pw3 89 a.toNat).resolve_left (by omega)]; exact ho3
        show zB _ _ _ _ _ _ [] _ _
        refine z_aload_n (pc2 := 56) rfl rfl rfl ?_
        refine z_getI (pc2 := 59) 0 rfl rfl rfl rfl rfl t56 ?_
        intro v4 e4 r4 k4
        replace k4 : (0 : Int) ≤ v4 ∧ v4 ≤ 20000 := k4; clear r4
        replace e4 : Hw3 = v4 := by rw [e4]; first | exact hw3 | exact Eq.symm hw3 | (simp [zU]; first | done | exact hw3 | exact Eq.symm hw3 | omega)
        subst e4
        refine z_iload_n (pc2 := 60) rfl rfl rfl ?_
        refine z_icmp_le (t := 67) (pc2 := 63) rfl rfl rfl (by omega) (by omega) (fun c5 => ?_) (fun c5 => ?_)
        ·
          refine z_iconst (pc2 := 68) rfl rfl ?_
          refine z_istore (lv2 := [(6, _), (0, _), (1, _), (2, _), (3, _), (4, _), (5, _)]) (pc2 := 70) rfl rfl rfl rfl ?_
          refine z_iload (pc2 := 72) rfl rfl rfl ?_
          refine z_if_ne (t := 79) (pc2 := 75) rfl rfl rfl (by omega) (fun c6 => by exfalso; omega) (fun c6 => ?_)
          refine z_iconst (pc2 := 76) rfl rfl ?_
          refine z_goto (pc2 := 80) rfl rfl ?_
          refine z_istore (lv2 := [(4, _), (6, _), (0, _), (1, _), (2, _), (3, _), (5, _)]) (pc2 := 82) rfl rfl rfl rfl ?_
          refine z_iload (pc2 := 84) rfl rfl rfl ?_
          refine z_iconst (pc2 := 85) rfl rfl ?_
          refine z_icmp_eq (t := 93) (pc2 := 88) rfl rfl rfl (by omega) (by omega) (fun c7 => ?_) (fun c7 => ?_)
          ·
            refine z_iload_n (pc2 := 94) rfl rfl rfl ?_
            refine z_aload_n (pc2 := 95) rfl rfl rfl ?_
            refine z_getI (pc2 := 98) 0 rfl rfl rfl rfl rfl t56 ?_
            intro v8 e8 r8 k8
            replace k8 : (0 : Int) ≤ v8 ∧ v8 ≤ 20000 := k8; clear r8
            replace e8 : Hw3 = v8 := by rw [e8]; first | exact hw3 | exact Eq.symm hw3 | (simp [zU]; first | done | exact hw3 | exact Eq.symm hw3 | omega)
            subst e8
            refine z_isub (pc2 := 99) rfl rfl ?_
            refine z_istore (lv2 := [(7, _), (4, _), (6, _), (0, _), (1, _), (2, _), (3, _), (5, _)]) (pc2 := 101) rfl rfl rfl rfl ?_
            refine z_iload (pc2 := 103) rfl rfl rfl ?_
            refine z_if_eq (t := 116) (pc2 := 106) rfl rfl rfl (by omega) (fun c9 => ?_) (fun c9 => by exfalso; omega)
            refine z_iload_n (pc2 := 117) rfl rfl rfl ?_
            refine z_iload (pc2 := 119) rfl rfl rfl ?_
            refine z_iadd (pc2 := 120) rfl rfl ?_
            refine z_iload_n (pc2 := 121) rfl rfl rfl ?_
            refine z_icmp_ne (t := 128) (pc2 := 124) rfl rfl rfl (by omega) (by omega) (fun c10 => ?_) (fun c10 => ?_)
            ·
              refine z_iload (pc2 := 130) rfl rfl rfl ?_
              refine z_i2l (pc2 := 131) rfl rfl (by omega) ?_
              refine z_iload (pc2 := 133) rfl rfl rfl ?_
              refine z_i2l (pc2 := 134) rfl rfl (by omega) ?_
              refine z_lmul (pc2 := 135) rfl rfl ?_
              refine z_lstore (lv2 := [(8, _), (7, _), (4, _), (6, _), (0, _), (1, _), (2, _), (3, _), (5, _)]) (pc2 := 137) rfl rfl rfl rfl ?_
              refine z_lload (pc2 := 139) rfl rfl rfl ?_
              refine z_aload_n (pc2 := 140) rfl rfl rfl ?_
              refine z_iload_n (pc2 := 141) rfl rfl rfl ?_
              refine z_callV (y2 := 248) (as := [_]) (rest := [_]) (pc2 := 144) rfl rfl rfl rfl t56 rfl ?_
              refine m_isWidow hT (by omega) (fun w12 w12r => ?_)
              show zB _ _ _ _ _ _ [_, _] _ _
              refine z_if_eq (t := 153) (pc2 := 147) rfl rfl rfl (by omega) (fun c13 => ?_) (fun c13 => ?_)
              ·
                refine z_lconst 0 (pc2 := 154) rfl rfl rfl ?_
                refine z_aload_n (pc2 := 155) rfl rfl rfl ?_
                refine z_iload_n (pc2 := 156) rfl rfl rfl ?_
                refine z_iload (pc2 := 158) rfl rfl rfl ?_
                refine z_iadd (pc2 := 159) rfl rfl ?_
                refine z_iconst (pc2 := 160) rfl rfl ?_
                refine z_isub (pc2 := 161) rfl rfl ?_
                refine z_callV (y2 := 249) (as := [_]) (rest := [_, _]) (pc2 := 164) rfl rfl rfl rfl t56 rfl ?_
                refine m_isOrphan hT (by omega) (fun w14 w14r => ?_)
                show zB _ _ _ _ _ _ [_, _, _] _ _
                refine z_if_eq (t := 173) (pc2 := 167) rfl rfl rfl (by omega) (fun c15 => ?_) (fun c15 => ?_)
                ·
                  refine z_lconst 0 (pc2 := 174) rfl rfl rfl ?_
                  refine z_ladd (pc2 := 175) rfl rfl ?_
                  refine z_aload_n (pc2 := 176) rfl rfl rfl ?_
                  refine z_getP (pc2 := 179) rfl rfl rfl rfl t56 ?_
                  intro p16 p16e p16k; replace p16k : p16 = some 90 := p16k; clear p16e; subst p16k
                  refine z_iload_n (pc2 := 180) rfl rfl rfl ?_
                  refine z_iload (pc2 := 182) rfl rfl rfl ?_
                  refine z_iadd (pc2 := 183) rfl rfl ?_
                  refine z_lald (pc2 := 184) rfl rfl t90 (by omega) (by omega) (by decide) ?_
                  intro g17 g17e; clear g17e
                  refine z_ladd (pc2 := 185) rfl rfl ?_
                  refine z_ladd (pc2 := 186) rfl rfl ?_
                  refine z_lstore (lv2 := [(8, _), (7, _), (4, _), (6, _), (0, _), (1, _), (2, _), (3, _), (5, _)]) (pc2 := 188) rfl rfl rfl rfl ?_
                  refine z_iload (pc2 := 190) rfl rfl rfl ?_
                  refine z_iconst (pc2 := 191) rfl rfl ?_
                  refine z_icmp_eq (t := 206) (pc2 := 194) rfl rfl rfl (by omega) (by omega) (fun c18 => ?_) (fun c18 => by exfalso; omega)
                  refine z_aload_n (pc2 := 207) rfl rfl rfl ?_
                  refine z_getP (pc2 := 210) rfl rfl rfl rfl t56 ?_
                  intro p19 p19e p19k; replace p19k : p19 = some 89 := p19k; clear p19e; subst p19k
                  refine z_iload_n (pc2 := 211) rfl rfl rfl ?_
                  refine z_iload (pc2 := 213) rfl rfl rfl ?_
                  refine z_iast (pc2 := 214) rfl rfl t89 (by omega) (by omega) (by decide) (by omega) (by show (0 : Int) ≤ _ ∧ _ ≤ 100; omega) ?_
                  refine z_aload_n (pc2 := 215) rfl rfl rfl ?_
                  refine z_getP (pc2 := 218) rfl rfl rfl rfl t56 ?_
                  intro p20 p20e p20k; replace p20k : p20 = some 90 := p20k; clear p20e; subst p20k
                  refine z_iload_n (pc2 := 219) rfl rfl rfl ?_
                  refine z_lload (pc2 := 221) rfl rfl rfl ?_
                  refine z_last (pc2 := 222) rfl rfl t90 (by omega) (by omega) (by decide) ?_
                  refine z_iinc (lv2 := [(5, _), (8, _), (7, _), (4, _), (6, _), (0, _), (1, _), (2, _), (3, _)]) (pc2 := 225) rfl rfl rfl rfl rfl ?_
                  refine z_goto (pc2 := 32) rfl rfl ?_
                  refine z_lv (lv2 := [(0, _), (1, _), (2, _), (3, _), (4, _), (5, _)]) ⟨rfl, rfl, rfl, rfl, rfl, rfl, trivial⟩ ?_
                  exact ih _ _ _ _ _ (by first | assumption | exact (congrFun (zU_row _ _ _ (by decide)) _).trans (by assumption)) (by omega) (by omega) (by omega) (by repeat (first | exact zPq_rf _ | assumption | refine zPq_r ?_ | refine zPq_f ?_ (by decide))) (by omega) (by first | assumption | exact zNp_r (by assumption)) (by first | assumption | exact zPm_u (by assumption) (by omega)) (by first | omega | (refine Or.inr ⟨?_, ?_, ?_⟩ <;> rw [zU_same] <;> omega)) (by omega) (by omega)
                ·
                  refine z_ldc2 (1000000) (pc2 := 170) rfl rfl rfl ?_
                  refine z_goto (pc2 := 174) rfl rfl ?_
                  refine z_ladd (pc2 := 175) rfl rfl ?_
                  refine z_aload_n (pc2 := 176) rfl rfl rfl ?_
                  refine z_getP (pc2 := 179) rfl rfl rfl rfl t56 ?_
                  intro p21 p21e p21k; replace p21k : p21 = some 90 := p21k; clear p21e; subst p21k
                  refine z_iload_n (pc2 := 180) rfl rfl rfl ?_
                  refine z_iload (pc2 := 182) rfl rfl rfl ?_
                  refine z_iadd (pc2 := 183) rfl rfl ?_
                  refine z_lald (pc2 := 184) rfl rfl t90 (by omega) (by omega) (by decide) ?_
                  intro g22 g22e; clear g22e
                  refine z_ladd (pc2 := 185) rfl rfl ?_
                  refine z_ladd (pc2 := 186) rfl rfl ?_
                  refine z_lstore (lv2 := [(8, _), (7, _), (4, _), (6, _), (0, _), (1, _), (2, _), (3, _), (5, _)]) (pc2 := 188) rfl rfl rfl rfl ?_
                  refine z_iload (pc2 := 190) rfl rfl rfl ?_
                  refine z_iconst (pc2 := 191) rfl rfl ?_
                  refine z_icmp_eq (t := 206) (pc2 := 194) rfl rfl rfl (by omega) (by omega) (fun c23 => ?_) (fun c23 => by exfalso; omega)
                  refine z_aload_n (pc2 := 207) rfl rfl rfl ?_
                  refine z_getP (pc2 := 210) rfl rfl rfl rfl t56 ?_
                  intro p24 p24e p24k; replace p24k : p24 = some 89 := p24k; clear p24e; subst p24k
                  refine z_iload_n (pc2 := 211) rfl rfl rfl ?_
                  refine z_iload (pc2 := 213) rfl rfl rfl ?_
                  refine z_iast (pc2 := 214) rfl rfl t89 (by omega) (by omega) (by decide) (by omega) (by show (0 : Int) ≤ _ ∧ _ ≤ 100; omega) ?_
                  refine z_aload_n (pc2 := 215) rfl rfl rfl ?_
                  refine z_getP (pc2 := 218) rfl rfl rfl rfl t56 ?_
                  intro p25 p25e p25k; replace p25k : p25 = some 90 := p25k; clear p25e; subst p25k
                  refine z_iload_n (pc2 := 219) rfl rfl rfl ?_
                  refine z_lload (pc2 := 221) rfl rfl rfl ?_
                  refine z_last (pc2 := 222) rfl rfl t90 (by omega) (by omega) (by decide) ?_
                  refine z_iinc (lv2 := [(5, _), (8, _), (7, _), (4, _), (6, _), (0, _), (1, _), (2, _), (3, _)]) (pc2 := 225) rfl rfl rfl rfl rfl ?_
                  refine z_goto (pc2 := 32) rfl rfl ?_
                  refine z_lv (lv2 := [(0, _), (1, _), (2, _), (3, _), (4, _), (5, _)]) ⟨rfl, rfl, rfl, rfl, rfl, rfl, trivial⟩ ?_
                  exact ih _ _ _ _ _ (by first | assumption | exact (congrFun (zU_row _ _ _ (by decide)) _).trans (by assumption)) (by omega) (by omega) (by omega) (by repeat (first | exact zPq_rf _ | assumption | refine zPq_r ?_ | refine zPq_f ?_ (by decide))) (by omega) (by first | assumption | exact zNp_r (by assumption)) (by first | assumption | exact zPm_u (by assumption) (by omega)) (by first | omega | (refine Or.inr ⟨?_, ?_, ?_⟩ <;> rw [zU_same] <;> omega)) (by omega) (by omega)
              ·
                refine z_ldc2 (1000000) (pc2 := 150) rfl rfl rfl ?_
                refine z_goto (pc2 := 154) rfl rfl ?_
                refine z_aload_n (pc2 := 155) rfl rfl rfl ?_
                refine z_iload_n (pc2 := 156) rfl rfl rfl ?_
                refine z_iload (pc2 := 158) rfl rfl rfl ?_
                refine z_iadd (pc2 := 159) rfl rfl ?_
                refine z_iconst (pc2 := 160) rfl rfl ?_
                refine z_isub (pc2 := 161) rfl rfl ?_
                refine z_callV (y2 := 249) (as := [_]) (rest := [_, _]) (pc2 := 164) rfl rfl rfl rfl t56 rfl ?_
                refine m_isOrphan hT (by omega) (fun w26 w26r => ?_)
                show zB _ _ _ _ _ _ [_, _, _] _ _
                refine z_if_eq (t := 173) (pc2 := 167) rfl rfl rfl (by omega) (fun c27 => ?_) (fun c27 => ?_)
                ·
                  refine z_lconst 0 (pc2 := 174) rfl rfl rfl ?_
                  refine z_ladd (pc2 := 175) rfl rfl ?_
                  refine z_aload_n (pc2 := 176) rfl rfl rfl ?_
                  refine z_getP (pc2 := 179) rfl rfl rfl rfl t56 ?_
                  intro p28 p28e p28k; replace p28k : p28 = some 90 := p28k; clear p28e; subst p28k
                  refine z_iload_n (pc2 := 180) rfl rfl rfl ?_
                  refine z_iload (pc2 := 182) rfl rfl rfl ?_
                  refine z_iadd (pc2 := 183) rfl rfl ?_
                  refine z_lald (pc2 := 184) rfl rfl t90 (by omega) (by omega) (by decide) ?_
                  intro g29 g29e; clear g29e
                  refine z_ladd (pc2 := 185) rfl rfl ?_
                  refine z_ladd (pc2 := 186) rfl rfl ?_
                  refine z_lstore (lv2 := [(8, _), (7, _), (4, _), (6, _), (0, _), (1, _), (2, _), (3, _), (5, _)]) (pc2 := 188) rfl rfl rfl rfl ?_
                  refine z_iload (pc2 := 190) rfl rfl rfl ?_
                  refine z_iconst (pc2 := 191) rfl rfl ?_
                  refine z_icmp_eq (t := 206) (pc2 := 194) rfl rfl rfl (by omega) (by omega) (fun c30 => ?_) (fun c30 => by exfalso; omega)
                  refine z_aload_n (pc2 := 207) rfl rfl rfl ?_
                  refine z_getP (pc2 := 210) rfl rfl rfl rfl t56 ?_
                  intro p31 p31e p31k; replace p31k : p31 = some 89 := p31k; clear p31e; subst p31k
                  refine z_iload_n (pc2 := 211) rfl rfl rfl ?_
                  refine z_iload (pc2 := 213) rfl rfl rfl ?_
                  refine z_iast (pc2 := 214) rfl rfl t89 (by omega) (by omega) (by decide) (by omega) (by show (0 : Int) ≤ _ ∧ _ ≤ 100; omega) ?_
                  refine z_aload_n (pc2 := 215) rfl rfl rfl ?_
                  refine z_getP (pc2 := 218) rfl rfl rfl rfl t56 ?_
                  intro p32 p32e p32k; replace p32k : p32 = some 90 := p32k; clear p32e; subst p32k
                  refine z_iload_n (pc2 := 219) rfl rfl rfl ?_
                  refine z_lload (pc2 := 221) rfl rfl rfl ?_
                  refine z_last (pc2 := 222) rfl rfl t90 (by omega) (by omega) (by decide) ?_
                  refine z_iinc (lv2 := [(5, _), (8, _), (7, _), (4, _), (6, _), (0, _), (1, _), (2, _), (3, _)]) (pc2 := 225) rfl rfl rfl rfl rfl ?_
                  refine z_goto (pc2 := 32) rfl rfl ?_
                  refine z_lv (lv2 := [(0, _), (1, _), (2, _), (3, _), (4, _), (5, _)]) ⟨rfl, rfl, rfl, rfl, rfl, rfl, trivial⟩ ?_
                  exact ih _ _ _ _ _ (by first | assumption | exact (congrFun (zU_row _ _ _ (by decide)) _).trans (by assumption)) (by omega) (by omega) (by omega) (by repeat (first | exact zPq_rf _ | assumption | refine zPq_r ?_ | refine zPq_f ?_ (by decide))) (by omega) (by first | assumption | exact zNp_r (by assumption)) (by first | assumption | exact zPm_u (by assumption) (by omega)) (by first | omega | (refine Or.inr ⟨?_, ?_, ?_⟩ <;> rw [zU_same] <;> omega)) (by omega) (by omega)
                ·
                  refine z_ldc2 (1000000) (pc2 := 170) rfl rfl rfl ?_
                  refine z_goto (pc2 := 174) rfl rfl ?_
                  refine z_ladd (pc2 := 175) rfl rfl ?_
                  refine z_aload_n (pc2 := 176) rfl rfl rfl ?_
                  refine z_getP (pc2 := 179) rfl rfl rfl rfl t56 ?_
                  intro p33 p33e p33k; replace p33k : p33 = some 90 := p33k; clear p33e; subst p33k
                  refine z_iload_n (pc2 := 180) rfl rfl rfl ?_
                  refine z_iload (pc2 := 182) rfl rfl rfl ?_
                  refine z_iadd (pc2 := 183) rfl rfl ?_
                  refine z_lald (pc2 := 184) rfl rfl t90 (by omega) (by omega) (by decide) ?_
                  intro g34 g34e; clear g34e
                  refine z_ladd (pc2 := 185) rfl rfl ?_
                  refine z_ladd (pc2 := 186) rfl rfl ?_
                  refine z_lstore (lv2 := [(8, _), (7, _), (4, _), (6, _), (0, _), (1, _), (2, _), (3, _), (5, _)]) (pc2 := 188) rfl rfl rfl rfl ?_
                  refine z_iload (pc2 := 190) rfl rfl rfl ?_
                  refine z_iconst (pc2 := 191) rfl rfl ?_
                  refine z_icmp_eq (t := 206) (pc2 := 194) rfl rfl rfl (by omega) (by omega) (fun c35 => ?_) (fun c35 => by exfalso; omega)
                  refine z_aload_n (pc2 := 207) rfl rfl rfl ?_
                  refine z_getP (pc2 := 210) rfl rfl rfl rfl t56 ?_
                  intro p36 p36e p36k; replace p36k : p36 = some 89 := p36k; clear p36e; subst p36k
                  refine z_iload_n (pc2 := 211) rfl rfl rfl ?_
                  refine z_iload (pc2 := 213) rfl rfl rfl ?_
                  refine z_iast (pc2 := 214) rfl rfl t89 (by omega) (by omega) (by decide) (by omega) (by show (0 : Int) ≤ _ ∧ _ ≤ 100; omega) ?_
                  refine z_aload_n (pc2 := 215) rfl rfl rfl ?_
                  refine z_getP (pc2 := 218) rfl rfl rfl rfl t56 ?_
                  intro p37 p37e p37k; replace p37k : p37 = some 90 := p37k; clear p37e; subst p37k
                  refine z_iload_n (pc2 := 219) rfl rfl rfl ?_
                  refine z_lload (pc2 := 221) rfl rfl rfl ?_
                  refine z_last (pc2 := 222) rfl rfl t90 (by omega) (by omega) (by decide) ?_
                  refine z_iinc (lv2 := [(5, _), (8, _), (7, _), (4, _), (6, _), (0, _), (1, _), (2, _), (3, _)]) (pc2 := 225) rfl rfl rfl rfl rfl ?_
                  refine z_goto (pc2 := 32) rfl rfl ?_
                  refine z_lv (lv2 := [(0, _), (1, _), (2, _), (3, _), (4, _), (5, _)]) ⟨rfl, rfl, rfl, rfl, rfl, rfl, trivial⟩ ?_
                  exact ih _ _ _ _ _ (by first | assumption | exact (congrFun (zU_row _ _ _ (by decide)) _).trans (by assumption)) (by omega) (by omega) (by omega) (by repeat (first | exact zPq_rf _ | assumption | refine zPq_r ?_ | refine zPq_f ?_ (by decide))) (by omega) (by first | assumption | exact zNp_r (by assumption)) (by first | assumption | exact zPm_u (by assumption) (by omega)) (by first | omega | (refine Or.inr ⟨?_, ?_, ?_⟩ <;> rw [zU_same] <;> omega)) (by omega) (by omega)
            ·
              refine z_lconst 0 (pc2 := 125) rfl rfl rfl ?_
              refine z_goto (pc2 := 135) rfl rfl ?_
              refine z_lstore (lv2 := [(8, _), (7, _), (4, _), (6, _), (0, _), (1, _), (2, _), (3, _), (5, _)]) (pc2 := 137) rfl rfl rfl rfl ?_
              refine z_lload (pc2 := 139) rfl rfl rfl ?_
              refine z_aload_n (pc2 := 140) rfl rfl rfl ?_
              refine z_iload_n (pc2 := 141) rfl rfl rfl ?_
              refine z_callV (y2 := 248) (as := [_]) (rest := [_]) (pc2 := 144) rfl rfl rfl rfl t56 rfl ?_
              refine m_isWidow hT (by omega) (fun w38 w38r => ?_)
              show zB _ _ _ _ _ _ [_, _] _ _
              refine z_if_eq (t := 153) (pc2 := 147) rfl rfl rfl (by omega) (fun c39 => ?_) (fun c39 => ?_)
              ·
                refine z_lconst 0 (pc2 := 154) rfl rfl rfl ?_
                refine z_aload_n (pc2 := 155) rfl rfl rfl ?_
                refine z_iload_n (pc2 := 156) rfl rfl rfl ?_
                refine z_iload (pc2 := 158) rfl rfl rfl ?_
                refine z_iadd (pc2 := 159) rfl rfl ?_
                refine z_iconst (pc2 := 160) rfl rfl ?_
                refine z_isub (pc2 := 161) rfl rfl ?_
                refine z_callV (y2 := 249) (as := [_]) (rest := [_, _]) (pc2 := 164) rfl rfl rfl rfl t56 rfl ?_
                refine m_isOrphan hT (by omega) (fun w40 w40r => ?_)
                show zB _ _ _ _ _ _ [_, _, _] _ _
                refine z_if_eq (t := 173) (pc2 := 167) rfl rfl rfl (by omega) (fun c41 => ?_) (fun c41 => ?_)
                ·
                  refine z_lconst 0 (pc2 := 174) rfl rfl rfl ?_
                  refine z_ladd (pc2 := 175) rfl rfl ?_
                  refine z_aload_n (pc2 := 176) rfl rfl rfl ?_
                  refine z_getP (pc2 := 179) rfl rfl rfl rfl t56 ?_
                  intro p42 p42e p42k; replace p42k : p42 = some 90 := p42k; clear p42e; subst p42k
                  refine z_iload_n (pc2 := 180) rfl rfl rfl ?_
                  refine z_iload (pc2 := 182) rfl rfl rfl ?_
                  refine z_iadd (pc2 := 183) rfl rfl ?_
                  refine z_lald (pc2 := 184) rfl rfl t90 (by omega) (by omega) (by decide) ?_
                  intro g43 g43e; clear g43e
                  refine z_ladd (pc2 := 185) rfl rfl ?_
                  refine z_ladd (pc2 := 186) rfl rfl ?_
                  refine z_lstore (lv2 := [(8, _), (7, _), (4, _), (6, _), (0, _), (1, _), (2, _), (3, _), (5, _)]) (pc2 := 188) rfl rfl rfl rfl ?_
                  refine z_iload (pc2 := 190) rfl rfl rfl ?_
                  refine z_iconst (pc2 := 191) rfl rfl ?_
                  refine z_icmp_eq (t := 206) (pc2 := 194) rfl rfl rfl (by omega) (by omega) (fun c44 => ?_) (fun c44 => by exfalso; omega)
                  refine z_aload_n (pc2 := 207) rfl rfl rfl ?_
                  refine z_getP (pc2 := 210) rfl rfl rfl rfl t56 ?_
                  intro p45 p45e p45k; replace p45k : p45 = some 89 := p45k; clear p45e; subst p45k
                  refine z_iload_n (pc2 := 211) rfl rfl rfl ?_
                  refine z_iload (pc2 := 213) rfl rfl rfl ?_
                  refine z_iast (pc2 := 214) rfl rfl t89 (by omega) (by omega) (by decide) (by omega) (by show (0 : Int) ≤ _ ∧ _ ≤ 100; omega) ?_
                  refine z_aload_n (pc2 := 215) rfl rfl rfl ?_
                  refine z_getP (pc2 := 218) rfl rfl rfl rfl t56 ?_
                  intro p46 p46e p46k; replace p46k : p46 = some 90 := p46k; clear p46e; subst p46k
                  refine z_iload_n (pc2 := 219) rfl rfl rfl ?_
                  refine z_lload (pc2 := 221) rfl rfl rfl ?_
                  refine z_last (pc2 := 222) rfl rfl t90 (by omega) (by omega) (by decide) ?_
                  refine z_iinc (lv2 := [(5, _), (8, _), (7, _), (4, _), (6, _), (0, _), (1, _), (2, _), (3, _)]) (pc2 := 225) rfl rfl rfl rfl rfl ?_
                  refine z_goto (pc2 := 32) rfl rfl ?_
                  refine z_lv (lv2 := [(0, _), (1, _), (2, _), (3, _), (4, _), (5, _)]) ⟨rfl, rfl, rfl, rfl, rfl, rfl, trivial⟩ ?_
                  exact ih _ _ _ _ _ (by first | assumption | exact (congrFun (zU_row _ _ _ (by decide)) _).trans (by assumption)) (by omega) (by omega) (by omega) (by repeat (first | exact zPq_rf _ | assumption | refine zPq_r ?_ | refine zPq_f ?_ (by decide))) (by omega) (by first | assumption | exact zNp_r (by assumption)) (by first | assumption | exact zPm_u (by assumption) (by omega)) (by first | omega | (refine Or.inr ⟨?_, ?_, ?_⟩ <;> rw [zU_same] <;> omega)) (by omega) (by omega)
                ·
                  refine z_ldc2 (1000000) (pc2 := 170) rfl rfl rfl ?_
                  refine z_goto (pc2 := 174) rfl rfl ?_
                  refine z_ladd (pc2 := 175) rfl rfl ?_
                  refine z_aload_n (pc2 := 176) rfl rfl rfl ?_
                  refine z_getP (pc2 := 179) rfl rfl rfl rfl t56 ?_
                  intro p47 p47e p47k; replace p47k : p47 = some 90 := p47k; clear p47e; subst p47k
                  refine z_iload_n (pc2 := 180) rfl rfl rfl ?_
                  refine z_iload (pc2 := 182) rfl rfl rfl ?_
                  refine z_iadd (pc2 := 183) rfl rfl ?_
                  refine z_lald (pc2 := 184) rfl rfl t90 (by omega) (by omega) (by decide) ?_
                  intro g48 g48e; clear g48e
                  refine z_ladd (pc2 := 185) rfl rfl ?_
                  refine z_ladd (pc2 := 186) rfl rfl ?_
                  refine z_lstore (lv2 := [(8, _), (7, _), (4, _), (6, _), (0, _), (1, _), (2, _), (3, _), (5, _)]) (pc2 := 188) rfl rfl rfl rfl ?_
                  refine z_iload (pc2 := 190) rfl rfl rfl ?_
                  refine z_iconst (pc2 := 191) rfl rfl ?_
                  refine z_icmp_eq (t := 206) (pc2 := 194) rfl rfl rfl (by omega) (by omega) (fun c49 => ?_) (fun c49 => by exfalso; omega)
                  refine z_aload_n (pc2 := 207) rfl rfl rfl ?_
                  refine z_getP (pc2 := 210) rfl rfl rfl rfl t56 ?_
                  intro p50 p50e p50k; replace p50k : p50 = some 89 := p50k; clear p50e; subst p50k
                  refine z_iload_n (pc2 := 211) rfl rfl rfl ?_
                  refine z_iload (pc2 := 213) rfl rfl rfl ?_
                  refine z_iast (pc2 := 214) rfl rfl t89 (by omega) (by omega) (by decide) (by omega) (by show (0 : Int) ≤ _ ∧ _ ≤ 100; omega) ?_
                  refine z_aload_n (pc2 := 215) rfl rfl rfl ?_
                  refine z_getP (pc2 := 218) rfl rfl rfl rfl t56 ?_
                  intro p51 p51e p51k; replace p51k : p51 = some 90 := p51k; clear p51e; subst p51k
                  refine z_iload_n (pc2 := 219) rfl rfl rfl ?_
                  refine z_lload (pc2 := 221) rfl rfl rfl ?_
                  refine z_last (pc2 := 222) rfl rfl t90 (by omega) (by omega) (by decide) ?_
                  refine z_iinc (lv2 := [(5, _), (8, _), (7, _), (4, _), (6, _), (0, _), (1, _), (2, _), (3, _)]) (pc2 := 225) rfl rfl rfl rfl rfl ?_
                  refine z_goto (pc2 := 32) rfl rfl ?_
                  refine z_lv (lv2 := [(0, _), (1, _), (2, _), (3, _), (4, _), (5, _)]) ⟨rfl, rfl, rfl, rfl, rfl, rfl, trivial⟩ ?_
                  exact ih _ _ _ _ _ (by first | assumption | exact (congrFun (zU_row _ _ _ (by decide)) _).trans (by assumption)) (by omega) (by omega) (by omega) (by repeat (first | exact zPq_rf _ | assumption | refine zPq_r ?_ | refine zPq_f ?_ (by decide))) (by omega) (by first | assumption | exact zNp_r (by assumption)) (by first | assumption | exact zPm_u (by assumption) (by omega)) (by first | omega | (refine Or.inr ⟨?_, ?_, ?_⟩ <;> rw [zU_same] <;> omega)) (by omega) (by omega)
              ·
                refine z_ldc2 (1000000) (pc2 := 150) rfl rfl rfl ?_
                refine z_goto (pc2 := 154) rfl rfl ?_
                refine z_aload_n (pc2 := 155) rfl rfl rfl ?_
                refine z_iload_n (pc2 := 156) rfl rfl rfl ?_
                refine z_iload (pc2 := 158) rfl rfl rfl ?_
                refine z_iadd (pc2 := 159) rfl rfl ?_
                refine z_iconst (pc2 := 160) rfl rfl ?_
                refine z_isub (pc2 := 161) rfl rfl ?_
                refine z_callV (y2 := 249) (as := [_]) (rest := [_, _]) (pc2 := 164) rfl rfl rfl rfl t56 rfl ?_
                refine m_isOrphan hT (by omega) (fun w52 w52r => ?_)
                show zB _ _ _ _ _ _ [_, _, _] _ _
                refine z_if_eq (t := 173) (pc2 := 167) rfl rfl rfl (by omega) (fun c53 => ?_) (fun c53 => ?_)
                ·
                  refine z_lconst 0 (pc2 := 174) rfl rfl rfl ?_
                  refine z_ladd (pc2 := 175) rfl rfl ?_
                  refine z_aload_n (pc2 := 176) rfl rfl rfl ?_
                  refine z_getP (pc2 := 179) rfl rfl rfl rfl t56 ?_
                  intro p54 p54e p54k; replace p54k : p54 = some 90 := p54k; clear p54e; subst p54k
                  refine z_iload_n (pc2 := 180) rfl rfl rfl ?_
                  refine z_iload (pc2 := 182) rfl rfl rfl ?_
                  refine z_iadd (pc2 := 183) rfl rfl ?_
                  refine z_lald (pc2 := 184) rfl rfl t90 (by omega) (by omega) (by decide) ?_
                  intro g55 g55e; clear g55e
                  refine z_ladd (pc2 := 185) rfl rfl ?_
                  refine z_ladd (pc2 := 186) rfl rfl ?_
                  refine z_lstore (lv2 := [(8, _), (7, _), (4, _), (6, _), (0, _), (1, _), (2, _), (3, _), (5, _)]) (pc2 := 188) rfl rfl rfl rfl ?_
                  refine z_iload (pc2 := 190) rfl rfl rfl ?_
                  refine z_iconst (pc2 := 191) rfl rfl ?_
                  refine z_icmp_eq (t := 206) (pc2 := 194) rfl rfl rfl (by omega) (by omega) (fun c56 => ?_) (fun c56 => by exfalso; omega)
                  refine z_aload_n (pc2 := 207) rfl rfl rfl ?_
                  refine z_getP (pc2 := 210) rfl rfl rfl rfl t56 ?_
                  intro p57 p57e p57k; replace p57k : p57 = some 89 := p57k; clear p57e; subst p57k
                  refine z_iload_n (pc2 := 211) rfl rfl rfl ?_
                  refine z_iload (pc2 := 213) rfl rfl rfl ?_
                  refine z_iast (pc2 := 214) rfl rfl t89 (by omega) (by omega) (by decide) (by omega) (by show (0 : Int) ≤ _ ∧ _ ≤ 100; omega) ?_
                  refine z_aload_n (pc2 := 215) rfl rfl rfl ?_
                  refine z_getP (pc2 := 218) rfl rfl rfl rfl t56 ?_
                  intro p58 p58e p58k; replace p58k : p58 = some 90 := p58k; clear p58e; subst p58k
                  refine z_iload_n (pc2 := 219) rfl rfl rfl ?_
                  refine z_lload (pc2 := 221) rfl rfl rfl ?_
                  refine z_last (pc2 := 222) rfl rfl t90 (by omega) (by omega) (by decide) ?_
                  refine z_iinc (lv2 := [(5, _), (8, _), (7, _), (4, _), (6, _), (0, _), (1, _), (2, _), (3, _)]) (pc2 := 225) rfl rfl rfl rfl rfl ?_
                  refine z_goto (pc2 := 32) rfl rfl ?_
                  refine z_lv (lv2 := [(0, _), (1, _), (2, _), (3, _), (4, _), (5, _)]) ⟨rfl, rfl, rfl, rfl, rfl, rfl, trivial⟩ ?_
                  exact ih _ _ _ _ _ (by first | assumption | exact (congrFun (zU_row _ _ _ (by decide)) _).trans (by assumption)) (by omega) (by omega) (by omega) (by repeat (first | exact zPq_rf _ | assumption | refine zPq_r ?_ | refine zPq_f ?_ (by decide))) (by omega) (by first | assumption | exact zNp_r (by assumption)) (by first | assumption | exact zPm_u (by assumption) (by omega)) (by first | omega | (refine Or.inr ⟨?_, ?_, ?_⟩ <;> rw [zU_same] <;> omega)) (by omega) (by omega)
                ·
                  refine z_ldc2 (1000000) (pc2 := 170) rfl rfl rfl ?_
                  refine z_goto (pc2 := 174) rfl rfl ?_
                  refine z_ladd (pc2 := 175) rfl rfl ?_
                  refine z_aload_n (pc2 := 176) rfl rfl rfl ?_
                  refine z_getP (pc2 := 179) rfl rfl rfl rfl t56 ?_
                  intro p59 p59e p59k; replace p59k : p59 = some 90 := p59k; clear p59e; subst p59k
                  refine z_iload_n (pc2 := 180) rfl rfl rfl ?_
                  refine z_iload (pc2 := 182) rfl rfl rfl ?_
                  refine z_iadd (pc2 := 183) rfl rfl ?_
                  refine z_lald (pc2 := 184) rfl rfl t90 (by omega) (by omega) (by decide) ?_
                  intro g60 g60e; clear g60e
                  refine z_ladd (pc2 := 185) rfl rfl ?_
                  refine z_ladd (pc2 := 186) rfl rfl ?_
                  refine z_lstore (lv2 := [(8, _), (7, _), (4, _), (6, _), (0, _), (1, _), (2, _), (3, _), (5, _)]) (pc2 := 188) rfl rfl rfl rfl ?_
                  refine z_iload (pc2 := 190) rfl rfl rfl ?_
                  refine z_iconst (pc2 := 191) rfl rfl ?_
                  refine z_icmp_eq (t := 206) (pc2 := 194) rfl rfl rfl (by omega) (by omega) (fun c61 => ?_) (fun c61 => by exfalso; omega)
                  refine z_aload_n (pc2 := 207) rfl rfl rfl ?_
                  refine z_getP (pc2 := 210) rfl rfl rfl rfl t56 ?_
                  intro p62 p62e p62k; replace p62k : p62 = some 89 := p62k; clear p62e; subst p62k
                  refine z_iload_n (pc2 := 211) rfl rfl rfl ?_
                  refine z_iload (pc2 := 213) rfl rfl rfl ?_
                  refine z_iast (pc2 := 214) rfl rfl t89 (by omega) (by omega) (by decide) (by omega) (by show (0 : Int) ≤ _ ∧ _ ≤ 100; omega) ?_
                  refine z_aload_n (pc2 := 215) rfl rfl rfl ?_
                  refine z_getP (pc2 := 218) rfl rfl rfl rfl t56 ?_
                  intro p63 p63e p63k; replace p63k : p63 = some 90 := p63k; clear p63e; subst p63k
                  refine z_iload_n (pc2 := 219) rfl rfl rfl ?_
                  refine z_lload (pc2 := 221) rfl rfl rfl ?_
                  refine z_last (pc2 := 222) rfl rfl t90 (by omega) (by omega) (by decide) ?_
                  refine z_iinc (lv2 := [(5, _), (8, _), (7, _), (4, _), (6, _), (0, _), (1, _), (2, _), (3, _)]) (pc2 := 225) rfl rfl rfl rfl rfl ?_
                  refine z_goto (pc2 := 32) rfl rfl ?_
                  refine z_lv (lv2 := [(0, _), (1, _), (2, _), (3, _), (4, _), (5, _)]) ⟨rfl, rfl, rfl, rfl, rfl, rfl, trivial⟩ ?_
                  exact ih _ _ _ _ _ (by first | assumption | exact (congrFun (zU_row _ _ _ (by decide)) _).trans (by assumption)) (by omega) (by omega) (by omega) (by repeat (first | exact zPq_rf _ | assumption | refine zPq_r ?_ | refine zPq_f ?_ (by decide))) (by omega) (by first | assumption | exact zNp_r (by assumption)) (by first | assumption | exact zPm_u (by assumption) (by omega)) (by first | omega | (refine Or.inr ⟨?_, ?_, ?_⟩ <;> rw [zU_same] <;> omega)) (by omega) (by omega)
          ·
            refine z_iload (pc2 := 90) rfl rfl rfl ?_
            refine z_if_ne (t := 222) (pc2 := 93) rfl rfl rfl (by omega) (fun c64 => by exfalso; omega) (fun c64 => ?_)
            refine z_iload_n (pc2 := 94) rfl rfl rfl ?_
            refine z_aload_n (pc2 := 95) rfl rfl rfl ?_
            refine z_getI (pc2 := 98) 0 rfl rfl rfl rfl rfl t56 ?_
            intro v65 e65 r65 k65
            replace k65 : (0 : Int) ≤ v65 ∧ v65 ≤ 20000 := k65; clear r65
            replace e65 : Hw3 = v65 := by rw [e65]; first | exact hw3 | exact Eq.symm hw3 | (simp [zU]; first | done | exact hw3 | exact Eq.symm hw3 | omega)
            subst e65
            refine z_isub (pc2 := 99) rfl rfl ?_
            refine z_istore (lv2 := [(7, _), (4, _), (6, _), (0, _), (1, _), (2, _), (3, _), (5, _)]) (pc2 := 101) rfl rfl rfl rfl ?_
            refine z_iload (pc2 := 103) rfl rfl rfl ?_
            refine z_if_eq (t := 116) (pc2 := 106) rfl rfl rfl (by omega) (fun c66 => ?_) (fun c66 => by exfalso; omega)
            refine z_iload_n (pc2 := 117) rfl rfl rfl ?_
            refine z_iload (pc2 := 119) rfl rfl rfl ?_
            refine z_iadd (pc2 := 120) rfl rfl ?_
            refine z_iload_n (pc2 := 121) rfl rfl rfl ?_
            refine z_icmp_ne (t := 128) (pc2 := 124) rfl rfl rfl (by omega) (by omega) (fun c67 => ?_) (fun c67 => ?_)
            ·
              refine z_iload (pc2 := 130) rfl rfl rfl ?_
              refine z_i2l (pc2 := 131) rfl rfl (by omega) ?_
              refine z_iload (pc2 := 133) rfl rfl rfl ?_
              refine z_i2l (pc2 := 134) rfl rfl (by omega) ?_
              refine z_lmul (pc2 := 135) rfl rfl ?_
              refine z_lstore (lv2 := [(8, _), (7, _), (4, _), (6, _), (0, _), (1, _), (2, _), (3, _), (5, _)]) (pc2 := 137) rfl rfl rfl rfl ?_
              refine z_lload (pc2 := 139) rfl rfl rfl ?_
              refine z_aload_n (pc2 := 140) rfl rfl rfl ?_
              refine z_iload_n (pc2 := 141) rfl rfl rfl ?_
              refine z_callV (y2 := 248) (as := [_]) (rest := [_]) (pc2 := 144) rfl rfl rfl rfl t56 rfl ?_
              refine m_isWidow hT (by omega) (fun w69 w69r => ?_)
              show zB _ _ _ _ _ _ [_, _] _ _
              refine z_if_eq (t := 153) (pc2 := 147) rfl rfl rfl (by omega) (fun c70 => ?_) (fun c70 => ?_)
              ·
                refine z_lconst 0 (pc2 := 154) rfl rfl rfl ?_
                refine z_aload_n (pc2 := 155) rfl rfl rfl ?_
                refine z_iload_n (pc2 := 156) rfl rfl rfl ?_
                refine z_iload (pc2 := 158) rfl rfl rfl ?_
                refine z_iadd (pc2 := 159) rfl rfl ?_
                refine z_iconst (pc2 := 160) rfl rfl ?_
                refine z_isub (pc2 := 161) rfl rfl ?_
                refine z_callV (y2 := 249) (as := [_]) (rest := [_, _]) (pc2 := 164) rfl rfl rfl rfl t56 rfl ?_
                refine m_isOrphan hT (by omega) (fun w71 w71r => ?_)
                show zB _ _ _ _ _ _ [_, _, _] _ _
                refine z_if_eq (t := 173) (pc2 := 167) rfl rfl rfl (by omega) (fun c72 => ?_) (fun c72 => ?_)
                ·
                  refine z_lconst 0 (pc2 := 174) rfl rfl rfl ?_
                  refine z_ladd (pc2 := 175) rfl rfl ?_
                  refine z_aload_n (pc2 := 176) rfl rfl rfl ?_
                  refine z_getP (pc2 := 179) rfl rfl rfl rfl t56 ?_
                  intro p73 p73e p73k; replace p73k : p73 = some 90 := p73k; clear p73e; subst p73k
                  refine z_iload_n (pc2 := 180) rfl rfl rfl ?_
                  refine z_iload (pc2 := 182) rfl rfl rfl ?_
                  refine z_iadd (pc2 := 183) rfl rfl ?_
                  refine z_lald (pc2 := 184) rfl rfl t90 (by omega) (by omega) (by decide) ?_
                  intro g74 g74e; clear g74e
                  refine z_ladd (pc2 := 185) rfl rfl ?_
                  refine z_ladd (pc2 := 186) rfl rfl ?_
                  refine z_lstore (lv2 := [(8, _), (7, _), (4, _), (6, _), (0, _), (1, _), (2, _), (3, _), (5, _)]) (pc2 := 188) rfl rfl rfl rfl ?_
                  refine z_iload (pc2 := 190) rfl rfl rfl ?_
                  refine z_iconst (pc2 := 191) rfl rfl ?_
                  refine z_icmp_eq (t := 206) (pc2 := 194) rfl rfl rfl (by omega) (by omega) (fun c75 => by exfalso; omega) (fun c75 => ?_)
                  refine z_lload (pc2 := 196) rfl rfl rfl ?_
                  refine z_aload_n (pc2 := 197) rfl rfl rfl ?_
                  refine z_getP (pc2 := 200) rfl rfl rfl rfl t56 ?_
                  intro p76 p76e p76k; replace p76k : p76 = some 90 := p76k; clear p76e; subst p76k
                  refine z_iload_n (pc2 := 201) rfl rfl rfl ?_
                  refine z_lald (pc2 := 202) rfl rfl t90 (by omega) (by omega) (by decide) ?_
                  intro g77 g77e; clear g77e
                  refine z_lcmp_any (pc2 := 203) rfl rfl (fun c78 c78a => ?_)
                  refine z_if_ge (t := 222) (pc2 := 206) rfl rfl rfl (by omega) (fun c79 => ?_) (fun c79 => ?_)
                  ·
                    refine z_iinc (lv2 := [(5, _), (8, _), (7, _), (4, _), (6, _), (0, _), (1, _), (2, _), (3, _)]) (pc2 := 225) rfl rfl rfl rfl rfl ?_
                    refine z_goto (pc2 := 32) rfl rfl ?_
                    refine z_lv (lv2 := [(0, _), (1, _), (2, _), (3, _), (4, _), (5, _)]) ⟨rfl, rfl, rfl, rfl, rfl, rfl, trivial⟩ ?_
                    exact ih _ _ _ _ _ (by first | assumption | exact (congrFun (zU_row _ _ _ (by decide)) _).trans (by assumption)) (by omega) (by omega) (by omega) (by repeat (first | exact zPq_rf _ | assumption | refine zPq_r ?_ | refine zPq_f ?_ (by decide))) (by omega) (by first | assumption | exact zNp_r (by assumption)) (by first | assumption | exact zPm_u (by assumption) (by omega)) (by first | omega | (refine Or.inr ⟨?_, ?_, ?_⟩ <;> rw [zU_same] <;> omega)) (by omega) (by omega)
                  ·
                    refine z_aload_n (pc2 := 207) rfl rfl rfl ?_
                    refine z_getP (pc2 := 210) rfl rfl rfl rfl t56 ?_
                    intro p80 p80e p80k; replace p80k : p80 = some 89 := p80k; clear p80e; subst p80k
                    refine z_iload_n (pc2 := 211) rfl rfl rfl ?_
                    refine z_iload (pc2 := 213) rfl rfl rfl ?_
                    refine z_iast (pc2 := 214) rfl rfl t89 (by omega) (by omega) (by decide) (by omega) (by show (0 : Int) ≤ _ ∧ _ ≤ 100; omega) ?_
                    refine z_aload_n (pc2 := 215) rfl rfl rfl ?_
                    refine z_getP (pc2 := 218) rfl rfl rfl rfl t56 ?_
                    intro p81 p81e p81k; replace p81k : p81 = some 90 := p81k; clear p81e; subst p81k
                    refine z_iload_n (pc2 := 219) rfl rfl rfl ?_
                    refine z_lload (pc2 := 221) rfl rfl rfl ?_
                    refine z_last (pc2 := 222) rfl rfl t90 (by omega) (by omega) (by decide) ?_
                    refine z_iinc (lv2 := [(5, _), (8, _), (7, _), (4, _), (6, _), (0, _), (1, _), (2, _), (3, _)]) (pc2 := 225) rfl rfl rfl rfl rfl ?_
                    refine z_goto (pc2 := 32) rfl rfl ?_
                    refine z_lv (lv2 := [(0, _), (1, _), (2, _), (3, _), (4, _), (5, _)]) ⟨rfl, rfl, rfl, rfl, rfl, rfl, trivial⟩ ?_
                    exact ih _ _ _ _ _ (by first | assumption | exact (congrFun (zU_row _ _ _ (by decide)) _).trans (by assumption)) (by omega) (by omega) (by omega) (by repeat (first | exact zPq_rf _ | assumption | refine zPq_r ?_ | refine zPq_f ?_ (by decide))) (by omega) (by first | assumption | exact zNp_r (by assumption)) (by first | assumption | exact zPm_u (by assumption) (by omega)) (by first | omega | (refine Or.inr ⟨?_, ?_, ?_⟩ <;> rw [zU_same] <;> omega)) (by omega) (by omega)
                ·
                  refine z_ldc2 (1000000) (pc2 := 170) rfl rfl rfl ?_
                  refine z_goto (pc2 := 174) rfl rfl ?_
                  refine z_ladd (pc2 := 175) rfl rfl ?_
                  refine z_aload_n (pc2 := 176) rfl rfl rfl ?_
                  refine z_getP (pc2 := 179) rfl rfl rfl rfl t56 ?_
                  intro p82 p82e p82k; replace p82k : p82 = some 90 := p82k; clear p82e; subst p82k
                  refine z_iload_n (pc2 := 180) rfl rfl rfl ?_
                  refine z_iload (pc2 := 182) rfl rfl rfl ?_
                  refine z_iadd (pc2 := 183) rfl rfl ?_
                  refine z_lald (pc2 := 184) rfl rfl t90 (by omega) (by omega) (by decide) ?_
                  intro g83 g83e; clear g83e
                  refine z_ladd (pc2 := 185) rfl rfl ?_
                  refine z_ladd (pc2 := 186) rfl rfl ?_
                  refine z_lstore (lv2 := [(8, _), (7, _), (4, _), (6, _), (0, _), (1, _), (2, _), (3, _), (5, _)]) (pc2 := 188) rfl rfl rfl rfl ?_
                  refine z_iload (pc2 := 190) rfl rfl rfl ?_
                  refine z_iconst (pc2 := 191) rfl rfl ?_
                  refine z_icmp_eq (t := 206) (pc2 := 194) rfl rfl rfl (by omega) (by omega) (fun c84 => by exfalso; omega) (fun c84 => ?_)
                  refine z_lload (pc2 := 196) rfl rfl rfl ?_
                  refine z_aload_n (pc2 := 197) rfl rfl rfl ?_
                  refine z_getP (pc2 := 200) rfl rfl rfl rfl t56 ?_
                  intro p85 p85e p85k; replace p85k : p85 = some 90 := p85k; clear p85e; subst p85k
                  refine z_iload_n (pc2 := 201) rfl rfl rfl ?_
                  refine z_lald (pc2 := 202) rfl rfl t90 (by omega) (by omega) (by decide) ?_
                  intro g86 g86e; clear g86e
                  refine z_lcmp_any (pc2 := 203) rfl rfl (fun c87 c87a => ?_)
                  refine z_if_ge (t := 222) (pc2 := 206) rfl rfl rfl (by omega) (fun c88 => ?_) (fun c88 => ?_)
                  ·
                    refine z_iinc (lv2 := [(5, _), (8, _), (7, _), (4, _), (6, _), (0, _), (1, _), (2, _), (3, _)]) (pc2 := 225) rfl rfl rfl rfl rfl ?_
                    refine z_goto (pc2 := 32) rfl rfl ?_
                    refine z_lv (lv2 := [(0, _), (1, _), (2, _), (3, _), (4, _), (5, _)]) ⟨rfl, rfl, rfl, rfl, rfl, rfl, trivial⟩ ?_
                    exact ih _ _ _ _ _ (by first | assumption | exact (congrFun (zU_row _ _ _ (by decide)) _).trans (by assumption)) (by omega) (by omega) (by omega) (by repeat (first | exact zPq_rf _ | assumption | refine zPq_r ?_ | refine zPq_f ?_ (by decide))) (by omega) (by first | assumption | exact zNp_r (by assumption)) (by first | assumption | exact zPm_u (by assumption) (by omega)) (by first | omega | (refine Or.inr ⟨?_, ?_, ?_⟩ <;> rw [zU_same] <;> omega)) (by omega) (by omega)
                  ·
                    refine z_aload_n (pc2 := 207) rfl rfl rfl ?_
                    refine z_getP (pc2 := 210) rfl rfl rfl rfl t56 ?_
                    intro p89 p89e p89k; replace p89k : p89 = some 89 := p89k; clear p89e; subst p89k
                    refine z_iload_n (pc2 := 211) rfl rfl rfl ?_
                    refine z_iload (pc2 := 213) rfl rfl rfl ?_
                    refine z_iast (pc2 := 214) rfl rfl t89 (by omega) (by omega) (by decide) (by omega) (by show (0 : Int) ≤ _ ∧ _ ≤ 100; omega) ?_
                    refine z_aload_n (pc2 := 215) rfl rfl rfl ?_
                    refine z_getP (pc2 := 218) rfl rfl rfl rfl t56 ?_
                    intro p90 p90e p90k; replace p90k : p90 = some 90 := p90k; clear p90e; subst p90k
                    refine z_iload_n (pc2 := 219) rfl rfl rfl ?_
                    refine z_lload (pc2 := 221) rfl rfl rfl ?_
                    refine z_last (pc2 := 222) rfl rfl t90 (by omega) (by omega) (by decide) ?_
                    refine z_iinc (lv2 := [(5, _), (8, _), (7, _), (4, _), (6, _), (0, _), (1, _), (2, _), (3, _)]) (pc2 := 225) rfl rfl rfl rfl rfl ?_
                    refine z_goto (pc2 := 32) rfl rfl ?_
                    refine z_lv (lv2 := [(0, _), (1, _), (2, _), (3, _), (4, _), (5, _)]) ⟨rfl, rfl, rfl, rfl, rfl, rfl, trivial⟩ ?_
                    exact ih _ _ _ _ _ (by first | assumption | exact (congrFun (zU_row _ _ _ (by decide)) _).trans (by assumption)) (by omega) (by omega) (by omega) (by repeat (first | exact zPq_rf _ | assumption | refine zPq_r ?_ | refine zPq_f ?_ (by decide))) (by omega) (by first | assumption | exact zNp_r (by assumption)) (by first | assumption | exact zPm_u (by assumption) (by omega)) (by first | omega | (refine Or.inr ⟨?_, ?_, ?_⟩ <;> rw [zU_same] <;> omega)) (by omega) (by omega)
              ·
                refine z_ldc2 (1000000) (pc2 := 150) rfl rfl rfl ?_
                refine z_goto (pc2 := 154) rfl rfl ?_
                refine z_aload_n (pc2 := 155) rfl rfl rfl ?_
                refine z_iload_n (pc2 := 156) rfl rfl rfl ?_
                refine z_iload (pc2 := 158) rfl rfl rfl ?_
                refine z_iadd (pc2 := 159) rfl rfl ?_
                refine z_iconst (pc2 := 160) rfl rfl ?_
                refine z_isub (pc2 := 161) rfl rfl ?_
                refine z_callV (y2 := 249) (as := [_]) (rest := [_, _]) (pc2 := 164) rfl rfl rfl rfl t56 rfl ?_
                refine m_isOrphan hT (by omega) (fun w91 w91r => ?_)
                show zB _ _ _ _ _ _ [_, _, _] _ _
                refine z_if_eq (t := 173) (pc2 := 167) rfl rfl rfl (by omega) (fun c92 => ?_) (fun c92 => ?_)
                ·
                  refine z_lconst 0 (pc2 := 174) rfl rfl rfl ?_
                  refine z_ladd (pc2 := 175) rfl rfl ?_
                  refine z_aload_n (pc2 := 176) rfl rfl rfl ?_
                  refine z_getP (pc2 := 179) rfl rfl rfl rfl t56 ?_
                  intro p93 p93e p93k; replace p93k : p93 = some 90 := p93k; clear p93e; subst p93k
                  refine z_iload_n (pc2 := 180) rfl rfl rfl ?_
                  refine z_iload (pc2 := 182) rfl rfl rfl ?_
                  refine z_iadd (pc2 := 183) rfl rfl ?_
                  refine z_lald (pc2 := 184) rfl rfl t90 (by omega) (by omega) (by decide) ?_
                  intro g94 g94e; clear g94e
                  refine z_ladd (pc2 := 185) rfl rfl ?_
                  refine z_ladd (pc2 := 186) rfl rfl ?_
                  refine z_lstore (lv2 := [(8, _), (7, _), (4, _), (6, _), (0, _), (1, _), (2, _), (3, _), (5, _)]) (pc2 := 188) rfl rfl rfl rfl ?_
                  refine z_iload (pc2 := 190) rfl rfl rfl ?_
                  refine z_iconst (pc2 := 191) rfl rfl ?_
                  refine z_icmp_eq (t := 206) (pc2 := 194) rfl rfl rfl (by omega) (by omega) (fun c95 => by exfalso; omega) (fun c95 => ?_)
                  refine z_lload (pc2 := 196) rfl rfl rfl ?_
                  refine z_aload_n (pc2 := 197) rfl rfl rfl ?_
                  refine z_getP (pc2 := 200) rfl rfl rfl rfl t56 ?_
                  intro p96 p96e p96k; replace p96k : p96 = some 90 := p96k; clear p96e; subst p96k
                  refine z_iload_n (pc2 := 201) rfl rfl rfl ?_
                  refine z_lald (pc2 := 202) rfl rfl t90 (by omega) (by omega) (by decide) ?_
                  intro g97 g97e; clear g97e
                  refine z_lcmp_any (pc2 := 203) rfl rfl (fun c98 c98a => ?_)
                  refine z_if_ge (t := 222) (pc2 := 206) rfl rfl rfl (by omega) (fun c99 => ?_) (fun c99 => ?_)
                  ·
                    refine z_iinc (lv2 := [(5, _), (8, _), (7, _), (4, _), (6, _), (0, _), (1, _), (2, _), (3, _)]) (pc2 := 225) rfl rfl rfl rfl rfl ?_
                    refine z_goto (pc2 := 32) rfl rfl ?_
                    refine z_lv (lv2 := [(0, _), (1, _), (2, _), (3, _), (4, _), (5, _)]) ⟨rfl, rfl, rfl, rfl, rfl, rfl, trivial⟩ ?_
                    exact ih _ _ _ _ _ (by first | assumption | exact (congrFun (zU_row _ _ _ (by decide)) _).trans (by assumption)) (by omega) (by omega) (by omega) (by repeat (first | exact zPq_rf _ | assumption | refine zPq_r ?_ | refine zPq_f ?_ (by decide))) (by omega) (by first | assumption | exact zNp_r (by assumption)) (by first | assumption | exact zPm_u (by assumption) (by omega)) (by first | omega | (refine Or.inr ⟨?_, ?_, ?_⟩ <;> rw [zU_same] <;> omega)) (by omega) (by omega)
                  ·
                    refine z_aload_n (pc2 := 207) rfl rfl rfl ?_
                    refine z_getP (pc2 := 210) rfl rfl rfl rfl t56 ?_
                    intro p100 p100e p100k; replace p100k : p100 = some 89 := p100k; clear p100e; subst p100k
                    refine z_iload_n (pc2 := 211) rfl rfl rfl ?_
                    refine z_iload (pc2 := 213) rfl rfl rfl ?_
                    refine z_iast (pc2 := 214) rfl rfl t89 (by omega) (by omega) (by decide) (by omega) (by show (0 : Int) ≤ _ ∧ _ ≤ 100; omega) ?_
                    refine z_aload_n (pc2 := 215) rfl rfl rfl ?_
                    refine z_getP (pc2 := 218) rfl rfl rfl rfl t56 ?_
                    intro p101 p101e p101k; replace p101k : p101 = some 90 := p101k; clear p101e; subst p101k
                    refine z_iload_n (pc2 := 219) rfl rfl rfl ?_
                    refine z_lload (pc2 := 221) rfl rfl rfl ?_
                    refine z_last (pc2 := 222) rfl rfl t90 (by omega) (by omega) (by decide) ?_
                    refine z_iinc (lv2 := [(5, _), (8, _), (7, _), (4, _), (6, _), (0, _), (1, _), (2, _), (3, _)]) (pc2 := 225) rfl rfl rfl rfl rfl ?_
                    refine z_goto (pc2 := 32) rfl rfl ?_
                    refine z_lv (lv2 := [(0, _), (1, _), (2, _), (3, _), (4, _), (5, _)]) ⟨rfl, rfl, rfl, rfl, rfl, rfl, trivial⟩ ?_
                    exact ih _ _ _ _ _ (by first | assumption | exact (congrFun (zU_row _ _ _ (by decide)) _).trans (by assumption)) (by omega) (by omega) (by omega) (by repeat (first | exact zPq_rf _ | assumption | refine zPq_r ?_ | refine zPq_f ?_ (by decide))) (by omega) (by first | assumption | exact zNp_r (by assumption)) (by first | assumption | exact zPm_u (by assumption) (by omega)) (by first | omega | (refine Or.inr ⟨?_, ?_, ?_⟩ <;> rw [zU_same] <;> omega)) (by omega) (by omega)
                ·
                  refine z_ldc2 (1000000) (pc2 := 170) rfl rfl rfl ?_
                  refine z_goto (pc2 := 174) rfl rfl ?_
                  refine z_ladd (pc2 := 175) rfl rfl ?_
                  refine z_aload_n (pc2 := 176) rfl rfl rfl ?_
                  refine z_getP (pc2 := 179) rfl rfl rfl rfl t56 ?_
                  intro p102 p102e p102k; replace p102k : p102 = some 90 := p102k; clear p102e; subst p102k
                  refine z_iload_n (pc2 := 180) rfl rfl rfl ?_
                  refine z_iload (pc2 := 182) rfl rfl rfl ?_
                  refine z_iadd (pc2 := 183) rfl rfl ?_
                  refine z_lald (pc2 := 184) rfl rfl t90 (by omega) (by omega) (by decide) ?_
                  intro g103 g103e; clear g103e
                  refine z_ladd (pc2 := 185) rfl rfl ?_
                  refine z_ladd (pc2 := 186) rfl rfl ?_
                  refine z_lstore (lv2 := [(8, _), (7, _), (4, _), (6, _), (0, _), (1, _), (2, _), (3, _), (5, _)]) (pc2 := 188) rfl rfl rfl rfl ?_
                  refine z_iload (pc2 := 190) rfl rfl rfl ?_
                  refine z_iconst (pc2 := 191) rfl rfl ?_
                  refine z_icmp_eq (t := 206) (pc2 := 194) rfl rfl rfl (by omega) (by omega) (fun c104 => by exfalso; omega) (fun c104 => ?_)
                  refine z_lload (pc2 := 196) rfl rfl rfl ?_
                  refine z_aload_n (pc2 := 197) rfl rfl rfl ?_
                  refine z_getP (pc2 := 200) rfl rfl rfl rfl t56 ?_
                  intro p105 p105e p105k; replace p105k : p105 = some 90 := p105k; clear p105e; subst p105k
                  refine z_iload_n (pc2 := 201) rfl rfl rfl ?_
                  refine z_lald (pc2 := 202) rfl rfl t90 (by omega) (by omega) (by decide) ?_
                  intro g106 g106e; clear g106e
                  refine z_lcmp_any (pc2 := 203) rfl rfl (fun c107 c107a => ?_)
                  refine z_if_ge (t := 222) (pc2 := 206) rfl rfl rfl (by omega) (fun c108 => ?_) (fun c108 => ?_)
                  ·
                    refine z_iinc (lv2 := [(5, _), (8, _), (7, _), (4, _), (6, _), (0, _), (1, _), (2, _), (3, _)]) (pc2 := 225) rfl rfl rfl rfl rfl ?_
                    refine z_goto (pc2 := 32) rfl rfl ?_
                    refine z_lv (lv2 := [(0, _), (1, _), (2, _), (3, _), (4, _), (5, _)]) ⟨rfl, rfl, rfl, rfl, rfl, rfl, trivial⟩ ?_
                    exact ih _ _ _ _ _ (by first | assumption | exact (congrFun (zU_row _ _ _ (by decide)) _).trans (by assumption)) (by omega) (by omega) (by omega) (by repeat (first | exact zPq_rf _ | assumption | refine zPq_r ?_ | refine zPq_f ?_ (by decide))) (by omega) (by first | assumption | exact zNp_r (by assumption)) (by first | assumption | exact zPm_u (by assumption) (by omega)) (by first | omega | (refine Or.inr ⟨?_, ?_, ?_⟩ <;> rw [zU_same] <;> omega)) (by omega) (by omega)
                  ·
                    refine z_aload_n (pc2 := 207) rfl rfl rfl ?_
                    refine z_getP (pc2 := 210) rfl rfl rfl rfl t56 ?_
                    intro p109 p109e p109k; replace p109k : p109 = some 89 := p109k; clear p109e; subst p109k
                    refine z_iload_n (pc2 := 211) rfl rfl rfl ?_
                    refine z_iload (pc2 := 213) rfl rfl rfl ?_
                    refine z_iast (pc2 := 214) rfl rfl t89 (by omega) (by omega) (by decide) (by omega) (by show (0 : Int) ≤ _ ∧ _ ≤ 100; omega) ?_
                    refine z_aload_n (pc2 := 215) rfl rfl rfl ?_
                    refine z_getP (pc2 := 218) rfl rfl rfl rfl t56 ?_
                    intro p110 p110e p110k; replace p110k : p110 = some 90 := p110k; clear p110e; subst p110k
                    refine z_iload_n (pc2 := 219) rfl rfl rfl ?_
                    refine z_lload (pc2 := 221) rfl rfl rfl ?_
                    refine z_last (pc2 := 222) rfl rfl t90 (by omega) (by omega) (by decide) ?_
                    refine z_iinc (lv2 := [(5, _), (8, _), (7, _), (4, _), (6, _), (0, _), (1, _), (2, _), (3, _)]) (pc2 := 225) rfl rfl rfl rfl rfl ?_
                    refine z_goto (pc2 := 32) rfl rfl ?_
                    refine z_lv (lv2 := [(0, _), (1, _), (2, _), (3, _), (4, _), (5, _)]) ⟨rfl, rfl, rfl, rfl, rfl, rfl, trivial⟩ ?_
                    exact ih _ _ _ _ _ (by first | assumption | exact (congrFun (zU_row _ _ _ (by decide)) _).trans (by assumption)) (by omega) (by omega) (by omega) (by repeat (first | exact zPq_rf _ | assumption | refine zPq_r ?_ | refine zPq_f ?_ (by decide))) (by omega) (by first | assumption | exact zNp_r (by assumption)) (by first | assumption | exact zPm_u (by assumption) (by omega)) (by first | omega | (refine Or.inr ⟨?_, ?_, ?_⟩ <;> rw [zU_same] <;> omega)) (by omega) (by omega)
            ·
              refine z_lconst 0 (pc2 := 125) rfl rfl rfl ?_
              refine z_goto (pc2 := 135) rfl rfl ?_
              refine z_lstore (lv2 := [(8, _), (7, _), (4, _), (6, _), (0, _), (1, _), (2, _), (3, _), (5, _)]) (pc2 := 137) rfl rfl rfl rfl ?_
              refine z_lload (pc2 := 139) rfl rfl rfl ?_
              refine z_aload_n (pc2 := 140) rfl rfl rfl ?_
              refine z_iload_n (pc2 := 141) rfl rfl rfl ?_
              refine z_callV (y2 := 248) (as := [_]) (rest := [_]) (pc2 := 144) rfl rfl rfl rfl t56 rfl ?_
              refine m_isWidow hT (by omega) (fun w111 w111r => ?_)
              show zB _ _ _ _ _ _ [_, _] _ _
              refine z_if_eq (t := 153) (pc2 := 147) rfl rfl rfl (by omega) (fun c112 => ?_) (fun c112 => ?_)
              ·
                refine z_lconst 0 (pc2 := 154) rfl rfl rfl ?_
                refine z_aload_n (pc2 := 155) rfl rfl rfl ?_
                refine z_iload_n (pc2 := 156) rfl rfl rfl ?_
                refine z_iload (pc2 := 158) rfl rfl rfl ?_
                refine z_iadd (pc2 := 159) rfl rfl ?_
                refine z_iconst (pc2 := 160) rfl rfl ?_
                refine z_isub (pc2 := 161) rfl rfl ?_
                refine z_callV (y2 := 249) (as := [_]) (rest := [_, _]) (pc2 := 164) rfl rfl rfl rfl t56 rfl ?_
                refine m_isOrphan hT (by omega) (fun w113 w113r => ?_)
                show zB _ _ _ _ _ _ [_, _, _] _ _
                refine z_if_eq (t := 173) (pc2 := 167) rfl rfl rfl (by omega) (fun c114 => ?_) (fun c114 => ?_)
                ·
                  refine z_lconst 0 (pc2 := 174) rfl rfl rfl ?_
                  refine z_ladd (pc2 := 175) rfl rfl ?_
                  refine z_aload_n (pc2 := 176) rfl rfl rfl ?_
                  refine z_getP (pc2 := 179) rfl rfl rfl rfl t56 ?_
                  intro p115 p115e p115k; replace p115k : p115 = some 90 := p115k; clear p115e; subst p115k
                  refine z_iload_n (pc2 := 180) rfl rfl rfl ?_
                  refine z_iload (pc2 := 182) rfl rfl rfl ?_
                  refine z_iadd (pc2 := 183) rfl rfl ?_
                  refine z_lald (pc2 := 184) rfl rfl t90 (by omega) (by omega) (by decide) ?_
                  intro g116 g116e; clear g116e
                  refine z_ladd (pc2 := 185) rfl rfl ?_
                  refine z_ladd (pc2 := 186) rfl rfl ?_
                  refine z_lstore (lv2 := [(8, _), (7, _), (4, _), (6, _), (0, _), (1, _), (2, _), (3, _), (5, _)]) (pc2 := 188) rfl rfl rfl rfl ?_
                  refine z_iload (pc2 := 190) rfl rfl rfl ?_
                  refine z_iconst (pc2 := 191) rfl rfl ?_
                  refine z_icmp_eq (t := 206) (pc2 := 194) rfl rfl rfl (by omega) (by omega) (fun c117 => by exfalso; omega) (fun c117 => ?_)
                  refine z_lload (pc2 := 196) rfl rfl rfl ?_
                  refine z_aload_n (pc2 := 197) rfl rfl rfl ?_
                  refine z_getP (pc2 := 200) rfl rfl rfl rfl t56 ?_
                  intro p118 p118e p118k; replace p118k : p118 = some 90 := p118k; clear p118e; subst p118k
                  refine z_iload_n (pc2 := 201) rfl rfl rfl ?_
                  refine z_lald (pc2 := 202) rfl rfl t90 (by omega) (by omega) (by decide) ?_
                  intro g119 g119e; clear g119e
                  refine z_lcmp_any (pc2 := 203) rfl rfl (fun c120 c120a => ?_)
                  refine z_if_ge (t := 222) (pc2 := 206) rfl rfl rfl (by omega) (fun c121 => ?_) (fun c121 => ?_)
                  ·
                    refine z_iinc (lv2 := [(5, _), (8, _), (7, _), (4, _), (6, _), (0, _), (1, _), (2, _), (3, _)]) (pc2 := 225) rfl rfl rfl rfl rfl ?_
                    refine z_goto (pc2 := 32) rfl rfl ?_
                    refine z_lv (lv2 := [(0, _), (1, _), (2, _), (3, _), (4, _), (5, _)]) ⟨rfl, rfl, rfl, rfl, rfl, rfl, trivial⟩ ?_
                    exact ih _ _ _ _ _ (by first | assumption | exact (congrFun (zU_row _ _ _ (by decide)) _).trans (by assumption)) (by omega) (by omega) (by omega) (by repeat (first | exact zPq_rf _ | assumption | refine zPq_r ?_ | refine zPq_f ?_ (by decide))) (by omega) (by first | assumption | exact zNp_r (by assumption)) (by first | assumption | exact zPm_u (by assumption) (by omega)) (by first | omega | (refine Or.inr ⟨?_, ?_, ?_⟩ <;> rw [zU_same] <;> omega)) (by omega) (by omega)
                  ·
                    refine z_aload_n (pc2 := 207) rfl rfl rfl ?_
                    refine z_getP (pc2 := 210) rfl rfl rfl rfl t56 ?_
                    intro p122 p122e p122k; replace p122k : p122 = some 89 := p122k; clear p122e; subst p122k
                    refine z_iload_n (pc2 := 211) rfl rfl rfl ?_
                    refine z_iload (pc2 := 213) rfl rfl rfl ?_
                    refine z_iast (pc2 := 214) rfl rfl t89 (by omega) (by omega) (by decide) (by omega) (by show (0 : Int) ≤ _ ∧ _ ≤ 100; omega) ?_
                    refine z_aload_n (pc2 := 215) rfl rfl rfl ?_
                    refine z_getP (pc2 := 218) rfl rfl rfl rfl t56 ?_
                    intro p123 p123e p123k; replace p123k : p123 = some 90 := p123k; clear p123e; subst p123k
                    refine z_iload_n (pc2 := 219) rfl rfl rfl ?_
                    refine z_lload (pc2 := 221) rfl rfl rfl ?_
                    refine z_last (pc2 := 222) rfl rfl t90 (by omega) (by omega) (by decide) ?_
                    refine z_iinc (lv2 := [(5, _), (8, _), (7, _), (4, _), (6, _), (0, _), (1, _), (2, _), (3, _)]) (pc2 := 225) rfl rfl rfl rfl rfl ?_
                    refine z_goto (pc2 := 32) rfl rfl ?_
                    refine z_lv (lv2 := [(0, _), (1, _), (2, _), (3, _), (4, _), (5, _)]) ⟨rfl, rfl, rfl, rfl, rfl, rfl, trivial⟩ ?_
                    exact ih _ _ _ _ _ (by first | assumption | exact (congrFun (zU_row _ _ _ (by decide)) _).trans (by assumption)) (by omega) (by omega) (by omega) (by repeat (first | exact zPq_rf _ | assumption | refine zPq_r ?_ | refine zPq_f ?_ (by decide))) (by omega) (by first | assumption | exact zNp_r (by assumption)) (by first | assumption | exact zPm_u (by assumption) (by omega)) (by first | omega | (refine Or.inr ⟨?_, ?_, ?_⟩ <;> rw [zU_same] <;> omega)) (by omega) (by omega)
                ·
                  refine z_ldc2 (1000000) (pc2 := 170) rfl rfl rfl ?_
                  refine z_goto (pc2 := 174) rfl rfl ?_
                  refine z_ladd (pc2 := 175) rfl rfl ?_
                  refine z_aload_n (pc2 := 176) rfl rfl rfl ?_
                  refine z_getP (pc2 := 179) rfl rfl rfl rfl t56 ?_
                  intro p124 p124e p124k; replace p124k : p124 = some 90 := p124k; clear p124e; subst p124k
                  refine z_iload_n (pc2 := 180) rfl rfl rfl ?_
                  refine z_iload (pc2 := 182) rfl rfl rfl ?_
                  refine z_iadd (pc2 := 183) rfl rfl ?_
                  refine z_lald (pc2 := 184) rfl rfl t90 (by omega) (by omega) (by decide) ?_
                  intro g125 g125e; clear g125e
                  refine z_ladd (pc2 := 185) rfl rfl ?_
                  refine z_ladd (pc2 := 186) rfl rfl ?_
                  refine z_lstore (lv2 := [(8, _), (7, _), (4, _), (6, _), (0, _), (1, _), (2, _), (3, _), (5, _)]) (pc2 := 188) rfl rfl rfl rfl ?_
                  refine z_iload (pc2 := 190) rfl rfl rfl ?_
                  refine z_iconst (pc2 := 191) rfl rfl ?_
                  refine z_icmp_eq (t := 206) (pc2 := 194) rfl rfl rfl (by omega) (by omega) (fun c126 => by exfalso; omega) (fun c126 => ?_)
                  refine z_lload (pc2 := 196) rfl rfl rfl ?_
                  refine z_aload_n (pc2 := 197) rfl rfl rfl ?_
                  refine z_getP (pc2 := 200) rfl rfl rfl rfl t56 ?_
                  intro p127 p127e p127k; replace p127k : p127 = some 90 := p127k; clear p127e; subst p127k
                  refine z_iload_n (pc2 := 201) rfl rfl rfl ?_
                  refine z_lald (pc2 := 202) rfl rfl t90 (by omega) (by omega) (by decide) ?_
                  intro g128 g128e; clear g128e
                  refine z_lcmp_any (pc2 := 203) rfl rfl (fun c129 c129a => ?_)
                  refine z_if_ge (t := 222) (pc2 := 206) rfl rfl rfl (by omega) (fun c130 => ?_) (fun c130 => ?_)
                  ·
                    refine z_iinc (lv2 := [(5, _), (8, _), (7, _), (4, _), (6, _), (0, _), (1, _), (2, _), (3, _)]) (pc2 := 225) rfl rfl rfl rfl rfl ?_
                    refine z_goto (pc2 := 32) rfl rfl ?_
                    refine z_lv (lv2 := [(0, _), (1, _), (2, _), (3, _), (4, _), (5, _)]) ⟨rfl, rfl, rfl, rfl, rfl, rfl, trivial⟩ ?_
                    exact ih _ _ _ _ _ (by first | assumption | exact (congrFun (zU_row _ _ _ (by decide)) _).trans (by assumption)) (by omega) (by omega) (by omega) (by repeat (first | exact zPq_rf _ | assumption | refine zPq_r ?_ | refine zPq_f ?_ (by decide))) (by omega) (by first | assumption | exact zNp_r (by assumption)) (by first | assumption | exact zPm_u (by assumption) (by omega)) (by first | omega | (refine Or.inr ⟨?_, ?_, ?_⟩ <;> rw [zU_same] <;> omega)) (by omega) (by omega)
                  ·
                    refine z_aload_n (pc2 := 207) rfl rfl rfl ?_
                    refine z_getP (pc2 := 210) rfl rfl rfl rfl t56 ?_
                    intro p131 p131e p131k; replace p131k : p131 = some 89 := p131k; clear p131e; subst p131k
                    refine z_iload_n (pc2 := 211) rfl rfl rfl ?_
                    refine z_iload (pc2 := 213) rfl rfl rfl ?_
                    refine z_iast (pc2 := 214) rfl rfl t89 (by omega) (by omega) (by decide) (by omega) (by show (0 : Int) ≤ _ ∧ _ ≤ 100; omega) ?_
                    refine z_aload_n (pc2 := 215) rfl rfl rfl ?_
                    refine z_getP (pc2 := 218) rfl rfl rfl rfl t56 ?_
                    intro p132 p132e p132k; replace p132k : p132 = some 90 := p132k; clear p132e; subst p132k
                    refine z_iload_n (pc2 := 219) rfl rfl rfl ?_
                    refine z_lload (pc2 := 221) rfl rfl rfl ?_
                    refine z_last (pc2 := 222) rfl rfl t90 (by omega) (by omega) (by decide) ?_
                    refine z_iinc (lv2 := [(5, _), (8, _), (7, _), (4, _), (6, _), (0, _), (1, _), (2, _), (3, _)]) (pc2 := 225) rfl rfl rfl rfl rfl ?_
                    refine z_goto (pc2 := 32) rfl rfl ?_
                    refine z_lv (lv2 := [(0, _), (1, _), (2, _), (3, _), (4, _), (5, _)]) ⟨rfl, rfl, rfl, rfl, rfl, rfl, trivial⟩ ?_
                    exact ih _ _ _ _ _ (by first | assumption | exact (congrFun (zU_row _ _ _ (by decide)) _).trans (by assumption)) (by omega) (by omega) (by omega) (by repeat (first | exact zPq_rf _ | assumption | refine zPq_r ?_ | refine zPq_f ?_ (by decide))) (by omega) (by first | assumption | exact zNp_r (by assumption)) (by first | assumption | exact zPm_u (by assumption) (by omega)) (by first | omega | (refine Or.inr ⟨?_, ?_, ?_⟩ <;> rw [zU_same] <;> omega)) (by omega) (by omega)
              ·
                refine z_ldc2 (1000000) (pc2 := 150) rfl rfl rfl ?_
                refine z_goto (pc2 := 154) rfl rfl ?_
                refine z_aload_n (pc2 := 155) rfl rfl rfl ?_
                refine z_iload_n (pc2 := 156) rfl rfl rfl ?_
                refine z_iload (pc2 := 158) rfl rfl rfl ?_
                refine z_iadd (pc2 := 159) rfl rfl ?_
                refine z_iconst (pc2 := 160) rfl rfl ?_
                refine z_isub (pc2 := 161) rfl rfl ?_
                refine z_callV (y2 := 249) (as := [_]) (rest := [_, _]) (pc2 := 164) rfl rfl rfl rfl t56 rfl ?_
                refine m_isOrphan hT (by omega) (fun w133 w133r => ?_)
                show zB _ _ _ _ _ _ [_, _, _] _ _
                refine z_if_eq (t := 173) (pc2 := 167) rfl rfl rfl (by omega) (fun c134 => ?_) (fun c134 => ?_)
                ·
                  refine z_lconst 0 (pc2 := 174) rfl rfl rfl ?_
                  refine z_ladd (pc2 := 175) rfl rfl ?_
                  refine z_aload_n (pc2 := 176) rfl rfl rfl ?_
                  refine z_getP (pc2 := 179) rfl rfl rfl rfl t56 ?_
                  intro p135 p135e p135k; replace p135k : p135 = some 90 := p135k; clear p135e; subst p135k
                  refine z_iload_n (pc2 := 180) rfl rfl rfl ?_
                  refine z_iload (pc2 := 182) rfl rfl rfl ?_
                  refine z_iadd (pc2 := 183) rfl rfl ?_
                  refine z_lald (pc2 := 184) rfl rfl t90 (by omega) (by omega) (by decide) ?_
                  intro g136 g136e; clear g136e
                  refine z_ladd (pc2 := 185) rfl rfl ?_
                  refine z_ladd (pc2 := 186) rfl rfl ?_
                  refine z_lstore (lv2 := [(8, _), (7, _), (4, _), (6, _), (0, _), (1, _), (2, _), (3, _), (5, _)]) (pc2 := 188) rfl rfl rfl rfl ?_
                  refine z_iload (pc2 := 190) rfl rfl rfl ?_
                  refine z_iconst (pc2 := 191) rfl rfl ?_
                  refine z_icmp_eq (t := 206) (pc2 := 194) rfl rfl rfl (by omega) (by omega) (fun c137 => by exfalso; omega) (fun c137 => ?_)
                  refine z_lload (pc2 := 196) rfl rfl rfl ?_
                  refine z_aload_n (pc2 := 197) rfl rfl rfl ?_
                  refine z_getP (pc2 := 200) rfl rfl rfl rfl t56 ?_
                  intro p138 p138e p138k; replace p138k : p138 = some 90 := p138k; clear p138e; subst p138k
                  refine z_iload_n (pc2 := 201) rfl rfl rfl ?_
                  refine z_lald (pc2 := 202) rfl rfl t90 (by omega) (by omega) (by decide) ?_
                  intro g139 g139e; clear g139e
                  refine z_lcmp_any (pc2 := 203) rfl rfl (fun c140 c140a => ?_)
                  refine z_if_ge (t := 222) (pc2 := 206) rfl rfl rfl (by omega) (fun c141 => ?_) (fun c141 => ?_)
                  ·
                    refine z_iinc (lv2 := [(5, _), (8, _), (7, _), (4, _), (6, _), (0, _), (1, _), (2, _), (3, _)]) (pc2 := 225) rfl rfl rfl rfl rfl ?_
                    refine z_goto (pc2 := 32) rfl rfl ?_
                    refine z_lv (lv2 := [(0, _), (1, _), (2, _), (3, _), (4, _), (5, _)]) ⟨rfl, rfl, rfl, rfl, rfl, rfl, trivial⟩ ?_
                    exact ih _ _ _ _ _ (by first | assumption | exact (congrFun (zU_row _ _ _ (by decide)) _).trans (by assumption)) (by omega) (by omega) (by omega) (by repeat (first | exact zPq_rf _ | assumption | refine zPq_r ?_ | refine zPq_f ?_ (by decide))) (by omega) (by first | assumption | exact zNp_r (by assumption)) (by first | assumption | exact zPm_u (by assumption) (by omega)) (by first | omega | (refine Or.inr ⟨?_, ?_, ?_⟩ <;> rw [zU_same] <;> omega)) (by omega) (by omega)
                  ·
                    refine z_aload_n (pc2 := 207) rfl rfl rfl ?_
                    refine z_getP (pc2 := 210) rfl rfl rfl rfl t56 ?_
                    intro p142 p142e p142k; replace p142k : p142 = some 89 := p142k; clear p142e; subst p142k
                    refine z_iload_n (pc2 := 211) rfl rfl rfl ?_
                    refine z_iload (pc2 := 213) rfl rfl rfl ?_
                    refine z_iast (pc2 := 214) rfl rfl t89 (by omega) (by omega) (by decide) (by omega) (by show (0 : Int) ≤ _ ∧ _ ≤ 100; omega) ?_
                    refine z_aload_n (pc2 := 215) rfl rfl rfl ?_
                    refine z_getP (pc2 := 218) rfl rfl rfl rfl t56 ?_
                    intro p143 p143e p143k; replace p143k : p143 = some 90 := p143k; clear p143e; subst p143k
                    refine z_iload_n (pc2 := 219) rfl rfl rfl ?_
                    refine z_lload (pc2 := 221) rfl rfl rfl ?_
                    refine z_last (pc2 := 222) rfl rfl t90 (by omega) (by omega) (by decide) ?_
                    refine z_iinc (lv2 := [(5, _), (8, _), (7, _), (4, _), (6, _), (0, _), (1, _), (2, _), (3, _)]) (pc2 := 225) rfl rfl rfl rfl rfl ?_
                    refine z_goto (pc2 := 32) rfl rfl ?_
                    refine z_lv (lv2 := [(0, _), (1, _), (2, _), (3, _), (4, _), (5, _)]) ⟨rfl, rfl, rfl, rfl, rfl, rfl, trivial⟩ ?_
                    exact ih _ _ _ _ _ (by first | assumption | exact (congrFun (zU_row _ _ _ (by decide)) _).trans (by assumption)) (by omega) (by omega) (by omega) (by repeat (first | exact zPq_rf _ | assumption | refine zPq_r ?_ | refine zPq_f ?_ (by decide))) (by omega) (by first | assumption | exact zNp_r (by assumption)) (by first | assumption | exact zPm_u (by assumption) (by omega)) (by first | omega | (refine Or.inr ⟨?_, ?_, ?_⟩ <;> rw [zU_same] <;> omega)) (by omega) (by omega)
                ·
                  refine z_ldc2 (1000000) (pc2 := 170) rfl rfl rfl ?_
                  refine z_goto (pc2 := 174) rfl rfl ?_
                  refine z_ladd (pc2 := 175) rfl rfl ?_
                  refine z_aload_n (pc2 := 176) rfl rfl rfl ?_
                  refine z_getP (pc2 := 179) rfl rfl rfl rfl t56 ?_
                  intro p144 p144e p144k; replace p144k : p144 = some 90 := p144k; clear p144e; subst p144k
                  refine z_iload_n (pc2 := 180) rfl rfl rfl ?_
                  refine z_iload (pc2 := 182) rfl rfl rfl ?_
                  refine z_iadd (pc2 := 183) rfl rfl ?_
                  refine z_lald (pc2 := 184) rfl rfl t90 (by omega) (by omega) (by decide) ?_
                  intro g145 g145e; clear g145e
                  refine z_ladd (pc2 := 185) rfl rfl ?_
                  refine z_ladd (pc2 := 186) rfl rfl ?_
                  refine z_lstore (lv2 := [(8, _), (7, _), (4, _), (6, _), (0, _), (1, _), (2, _), (3, _), (5, _)]) (pc2 := 188) rfl rfl rfl rfl ?_
                  refine z_iload (pc2 := 190) rfl rfl rfl ?_
                  refine z_iconst (pc2 := 191) rfl rfl ?_
                  refine z_icmp_eq (t := 206) (pc2 := 194) rfl rfl rfl (by omega) (by omega) (fun c146 => by exfalso; omega) (fun c146 => ?_)
                  refine z_lload (pc2 := 196) rfl rfl rfl ?_
                  refine z_aload_n (pc2 := 197) rfl rfl rfl ?_
                  refine z_getP (pc2 := 200) rfl rfl rfl rfl t56 ?_
                  intro p147 p147e p147k; replace p147k : p147 = some 90 := p147k; clear p147e; subst p147k
                  refine z_iload_n (pc2 := 201) rfl rfl rfl ?_
                  refine z_lald (pc2 := 202) rfl rfl t90 (by omega) (by omega) (by decide) ?_
                  intro g148 g148e; clear g148e
                  refine z_lcmp_any (pc2 := 203) rfl rfl (fun c149 c149a => ?_)
                  refine z_if_ge (t := 222) (pc2 := 206) rfl rfl rfl (by omega) (fun c150 => ?_) (fun c150 => ?_)
                  ·
                    refine z_iinc (lv2 := [(5, _), (8, _), (7, _), (4, _), (6, _), (0, _), (1, _), (2, _), (3, _)]) (pc2 := 225) rfl rfl rfl rfl rfl ?_
                    refine z_goto (pc2 := 32) rfl rfl ?_
                    refine z_lv (lv2 := [(0, _), (1, _), (2, _), (3, _), (4, _), (5, _)]) ⟨rfl, rfl, rfl, rfl, rfl, rfl, trivial⟩ ?_
                    exact ih _ _ _ _ _ (by first | assumption | exact (congrFun (zU_row _ _ _ (by decide)) _).trans (by assumption)) (by omega) (by omega) (by omega) (by repeat (first | exact zPq_rf _ | assumption | refine zPq_r ?_ | refine zPq_f ?_ (by decide))) (by omega) (by first | assumption | exact zNp_r (by assumption)) (by first | assumption | exact zPm_u (by assumption) (by omega)) (by first | omega | (refine Or.inr ⟨?_, ?_, ?_⟩ <;> rw [zU_same] <;> omega)) (by omega) (by omega)
                  ·
                    refine z_aload_n (pc2 := 207) rfl rfl rfl ?_
                    refine z_getP (pc2 := 210) rfl rfl rfl rfl t56 ?_
                    intro p151 p151e p151k; replace p151k : p151 = some 89 := p151k; clear p151e; subst p151k
                    refine z_iload_n (pc2 := 211) rfl rfl rfl ?_
                    refine z_iload (pc2 := 213) rfl rfl rfl ?_
                    refine z_iast (pc2 := 214) rfl rfl t89 (by omega) (by omega) (by decide) (by omega) (by show (0 : Int) ≤ _ ∧ _ ≤ 100; omega) ?_
                    refine z_aload_n (pc2 := 215) rfl rfl rfl ?_
                    refine z_getP (pc2 := 218) rfl rfl rfl rfl t56 ?_
                    intro p152 p152e p152k; replace p152k : p152 = some 90 := p152k; clear p152e; subst p152k
                    refine z_iload_n (pc2 := 219) rfl rfl rfl ?_
                    refine z_lload (pc2 := 221) rfl rfl rfl ?_
                    refine z_last (pc2 := 222) rfl rfl t90 (by omega) (by omega) (by decide) ?_
                    refine z_iinc (lv2 := [(5, _), (8, _), (7, _), (4, _), (6, _), (0, _), (1, _), (2, _), (3, _)]) (pc2 := 225) rfl rfl rfl rfl rfl ?_
                    refine z_goto (pc2 := 32) rfl rfl ?_
                    refine z_lv (lv2 := [(0, _), (1, _), (2, _), (3, _), (4, _), (5, _)]) ⟨rfl, rfl, rfl, rfl, rfl, rfl, trivial⟩ ?_
                    exact ih _ _ _ _ _ (by first | assumption | exact (congrFun (zU_row _ _ _ (by decide)) _).trans (by assumption)) (by omega) (by omega) (by omega) (by repeat (first | exact zPq_rf _ | assumption | refine zPq_r ?_ | refine zPq_f ?_ (by decide))) (by omega) (by first | assumption | exact zNp_r (by assumption)) (by first | assumption | exact zPm_u (by assumption) (by omega)) (by first | omega | (refine Or.inr ⟨?_, ?_, ?_⟩ <;> rw [zU_same] <;> omega)) (by omega) (by omega)
        ·
          refine z_iconst (pc2 := 64) rfl rfl ?_
          refine z_goto (pc2 := 68) rfl rfl ?_
          refine z_istore (lv2 := [(6, _), (0, _), (1, _), (2, _), (3, _), (4, _), (5, _)]) (pc2 := 70) rfl rfl rfl rfl ?_
          refine z_iload (pc2 := 72) rfl rfl rfl ?_
          refine z_if_ne (t := 79) (pc2 := 75) rfl rfl rfl (by omega) (fun c153 => ?_) (fun c153 => by exfalso; omega)
          refine z_iconst (pc2 := 80) rfl rfl ?_
          refine z_istore (lv2 := [(4, _), (6, _), (0, _), (1, _), (2, _), (3, _), (5, _)]) (pc2 := 82) rfl rfl rfl rfl ?_
          refine z_iload (pc2 := 84) rfl rfl rfl ?_
          refine z_iconst (pc2 := 85) rfl rfl ?_
          refine z_icmp_eq (t := 93) (pc2 := 88) rfl rfl rfl (by omega) (by omega) (fun c154 => ?_) (fun c154 => ?_)
          ·
            refine z_iload_n (pc2 := 94) rfl rfl rfl ?_
            refine z_aload_n (pc2 := 95) rfl rfl rfl ?_
            refine z_getI (pc2 := 98) 0 rfl rfl rfl rfl rfl t56 ?_
            intro v155 e155 r155 k155
            replace k155 : (0 : Int) ≤ v155 ∧ v155 ≤ 20000 := k155; clear r155
            replace e155 : Hw3 = v155 := by rw [e155]; first | exact hw3 | exact Eq.symm hw3 | (simp [zU]; first | done | exact hw3 | exact Eq.symm hw3 | omega)
            subst e155
            refine z_isub (pc2 := 99) rfl rfl ?_
            refine z_istore (lv2 := [(7, _), (4, _), (6, _), (0, _), (1, _), (2, _), (3, _), (5, _)]) (pc2 := 101) rfl rfl rfl rfl ?_
            refine z_iload (pc2 := 103) rfl rfl rfl ?_
            refine z_if_eq (t := 116) (pc2 := 106) rfl rfl rfl (by omega) (fun c156 => by exfalso; omega) (fun c156 => ?_)
            refine z_ldc2 (100000000) (pc2 := 109) rfl rfl rfl ?_
            refine z_iload (pc2 := 111) rfl rfl rfl ?_
            refine z_i2l (pc2 := 112) rfl rfl (by omega) ?_
            refine z_lsub (pc2 := 113) rfl rfl ?_
            refine z_goto (pc2 := 135) rfl rfl ?_
            refine z_lstore (lv2 := [(8, _), (7, _), (4, _), (6, _), (0, _), (1, _), (2, _), (3, _), (5, _)]) (pc2 := 137) rfl rfl rfl rfl ?_
            refine z_lload (pc2 := 139) rfl rfl rfl ?_
            refine z_aload_n (pc2 := 140) rfl rfl rfl ?_
            refine z_iload_n (pc2 := 141) rfl rfl rfl ?_
            refine z_callV (y2 := 248) (as := [_]) (rest := [_]) (pc2 := 144) rfl rfl rfl rfl t56 rfl ?_
            refine m_isWidow hT (by omega) (fun w157 w157r => ?_)
            show zB _ _ _ _ _ _ [_, _] _ _
            refine z_if_eq (t := 153) (pc2 := 147) rfl rfl rfl (by omega) (fun c158 => ?_) (fun c158 => ?_)
            ·
              refine z_lconst 0 (pc2 := 154) rfl rfl rfl ?_
              refine z_aload_n (pc2 := 155) rfl rfl rfl ?_
              refine z_iload_n (pc2 := 156) rfl rfl rfl ?_
              refine z_iload (pc2 := 158) rfl rfl rfl ?_
              refine z_iadd (pc2 := 159) rfl rfl ?_
              refine z_iconst (pc2 := 160) rfl rfl ?_
              refine z_isub (pc2 := 161) rfl rfl ?_
              refine z_callV (y2 := 249) (as := [_]) (rest := [_, _]) (pc2 := 164) rfl rfl rfl rfl t56 rfl ?_
              refine m_isOrphan hT (by omega) (fun w159 w159r => ?_)
              show zB _ _ _ _ _ _ [_, _, _] _ _
              refine z_if_eq (t := 173) (pc2 := 167) rfl rfl rfl (by omega) (fun c160 => ?_) (fun c160 => ?_)
              ·
                refine z_lconst 0 (pc2 := 174) rfl rfl rfl ?_
                refine z_ladd (pc2 := 175) rfl rfl ?_
                refine z_aload_n (pc2 := 176) rfl rfl rfl ?_
                refine z_getP (pc2 := 179) rfl rfl rfl rfl t56 ?_
                intro p161 p161e p161k; replace p161k : p161 = some 90 := p161k; clear p161e; subst p161k
                refine z_iload_n (pc2 := 180) rfl rfl rfl ?_
                refine z_iload (pc2 := 182) rfl rfl rfl ?_
                refine z_iadd (pc2 := 183) rfl rfl ?_
                refine z_lald (pc2 := 184) rfl rfl t90 (by omega) (by omega) (by decide) ?_
                intro g162 g162e; clear g162e
                refine z_ladd (pc2 := 185) rfl rfl ?_
                refine z_ladd (pc2 := 186) rfl rfl ?_
                refine z_lstore (lv2 := [(8, _), (7, _), (4, _), (6, _), (0, _), (1, _), (2, _), (3, _), (5, _)]) (pc2 := 188) rfl rfl rfl rfl ?_
                refine z_iload (pc2 := 190) rfl rfl rfl ?_
                refine z_iconst (pc2 := 191) rfl rfl ?_
                refine z_icmp_eq (t := 206) (pc2 := 194) rfl rfl rfl (by omega) (by omega) (fun c163 => ?_) (fun c163 => by exfalso; omega)
                refine z_aload_n (pc2 := 207) rfl rfl rfl ?_
                refine z_getP (pc2 := 210) rfl rfl rfl rfl t56 ?_
                intro p164 p164e p164k; replace p164k : p164 = some 89 := p164k; clear p164e; subst p164k
                refine z_iload_n (pc2 := 211) rfl rfl rfl ?_
                refine z_iload (pc2 := 213) rfl rfl rfl ?_
                refine z_iast (pc2 := 214) rfl rfl t89 (by omega) (by omega) (by decide) (by omega) (by show (0 : Int) ≤ _ ∧ _ ≤ 100; omega) ?_
                refine z_aload_n (pc2 := 215) rfl rfl rfl ?_
                refine z_getP (pc2 := 218) rfl rfl rfl rfl t56 ?_
                intro p165 p165e p165k; replace p165k : p165 = some 90 := p165k; clear p165e; subst p165k
                refine z_iload_n (pc2 := 219) rfl rfl rfl ?_
                refine z_lload (pc2 := 221) rfl rfl rfl ?_
                refine z_last (pc2 := 222) rfl rfl t90 (by omega) (by omega) (by decide) ?_
                refine z_iinc (lv2 := [(5, _), (8, _), (7, _), (4, _), (6, _), (0, _), (1, _), (2, _), (3, _)]) (pc2 := 225) rfl rfl rfl rfl rfl ?_
                refine z_goto (pc2 := 32) rfl rfl ?_
                refine z_lv (lv2 := [(0, _), (1, _), (2, _), (3, _), (4, _), (5, _)]) ⟨rfl, rfl, rfl, rfl, rfl, rfl, trivial⟩ ?_
                exact ih _ _ _ _ _ (by first | assumption | exact (congrFun (zU_row _ _ _ (by decide)) _).trans (by assumption)) (by omega) (by omega) (by omega) (by repeat (first | exact zPq_rf _ | assumption | refine zPq_r ?_ | refine zPq_f ?_ (by decide))) (by omega) (by first | assumption | exact zNp_r (by assumption)) (by first | assumption | exact zPm_u (by assumption) (by omega)) (by first | omega | (refine Or.inr ⟨?_, ?_, ?_⟩ <;> rw [zU_same] <;> omega)) (by omega) (by omega)
              ·
                refine z_ldc2 (1000000) (pc2 := 170) rfl rfl rfl ?_
                refine z_goto (pc2 := 174) rfl rfl ?_
                refine z_ladd (pc2 := 175) rfl rfl ?_
                refine z_aload_n (pc2 := 176) rfl rfl rfl ?_
                refine z_getP (pc2 := 179) rfl rfl rfl rfl t56 ?_
                intro p166 p166e p166k; replace p166k : p166 = some 90 := p166k; clear p166e; subst p166k
                refine z_iload_n (pc2 := 180) rfl rfl rfl ?_
                refine z_iload (pc2 := 182) rfl rfl rfl ?_
                refine z_iadd (pc2 := 183) rfl rfl ?_
                refine z_lald (pc2 := 184) rfl rfl t90 (by omega) (by omega) (by decide) ?_
                intro g167 g167e; clear g167e
                refine z_ladd (pc2 := 185) rfl rfl ?_
                refine z_ladd (pc2 := 186) rfl rfl ?_
                refine z_lstore (lv2 := [(8, _), (7, _), (4, _), (6, _), (0, _), (1, _), (2, _), (3, _), (5, _)]) (pc2 := 188) rfl rfl rfl rfl ?_
                refine z_iload (pc2 := 190) rfl rfl rfl ?_
                refine z_iconst (pc2 := 191) rfl rfl ?_
                refine z_icmp_eq (t := 206) (pc2 := 194) rfl rfl rfl (by omega) (by omega) (fun c168 => ?_) (fun c168 => by exfalso; omega)
                refine z_aload_n (pc2 := 207) rfl rfl rfl ?_
                refine z_getP (pc2 := 210) rfl rfl rfl rfl t56 ?_
                intro p169 p169e p169k; replace p169k : p169 = some 89 := p169k; clear p169e; subst p169k
                refine z_iload_n (pc2 := 211) rfl rfl rfl ?_
                refine z_iload (pc2 := 213) rfl rfl rfl ?_
                refine z_iast (pc2 := 214) rfl rfl t89 (by omega) (by omega) (by decide) (by omega) (by show (0 : Int) ≤ _ ∧ _ ≤ 100; omega) ?_
                refine z_aload_n (pc2 := 215) rfl rfl rfl ?_
                refine z_getP (pc2 := 218) rfl rfl rfl rfl t56 ?_
                intro p170 p170e p170k; replace p170k : p170 = some 90 := p170k; clear p170e; subst p170k
                refine z_iload_n (pc2 := 219) rfl rfl rfl ?_
                refine z_lload (pc2 := 221) rfl rfl rfl ?_
                refine z_last (pc2 := 222) rfl rfl t90 (by omega) (by omega) (by decide) ?_
                refine z_iinc (lv2 := [(5, _), (8, _), (7, _), (4, _), (6, _), (0, _), (1, _), (2, _), (3, _)]) (pc2 := 225) rfl rfl rfl rfl rfl ?_
                refine z_goto (pc2 := 32) rfl rfl ?_
                refine z_lv (lv2 := [(0, _), (1, _), (2, _), (3, _), (4, _), (5, _)]) ⟨rfl, rfl, rfl, rfl, rfl, rfl, trivial⟩ ?_
                exact ih _ _ _ _ _ (by first | assumption | exact (congrFun (zU_row _ _ _ (by decide)) _).trans (by assumption)) (by omega) (by omega) (by omega) (by repeat (first | exact zPq_rf _ | assumption | refine zPq_r ?_ | refine zPq_f ?_ (by decide))) (by omega) (by first | assumption | exact zNp_r (by assumption)) (by first | assumption | exact zPm_u (by assumption) (by omega)) (by first | omega | (refine Or.inr ⟨?_, ?_, ?_⟩ <;> rw [zU_same] <;> omega)) (by omega) (by omega)
            ·
              refine z_ldc2 (1000000) (pc2 := 150) rfl rfl rfl ?_
              refine z_goto (pc2 := 154) rfl rfl ?_
              refine z_aload_n (pc2 := 155) rfl rfl rfl ?_
              refine z_iload_n (pc2 := 156) rfl rfl rfl ?_
              refine z_iload (pc2 := 158) rfl rfl rfl ?_
              refine z_iadd (pc2 := 159) rfl rfl ?_
              refine z_iconst (pc2 := 160) rfl rfl ?_
              refine z_isub (pc2 := 161) rfl rfl ?_
              refine z_callV (y2 := 249) (as := [_]) (rest := [_, _]) (pc2 := 164) rfl rfl rfl rfl t56 rfl ?_
              refine m_isOrphan hT (by omega) (fun w171 w171r => ?_)
              show zB _ _ _ _ _ _ [_, _, _] _ _
              refine z_if_eq (t := 173) (pc2 := 167) rfl rfl rfl (by omega) (fun c172 => ?_) (fun c172 => ?_)
              ·
                refine z_lconst 0 (pc2 := 174) rfl rfl rfl ?_
                refine z_ladd (pc2 := 175) rfl rfl ?_
                refine z_aload_n (pc2 := 176) rfl rfl rfl ?_
                refine z_getP (pc2 := 179) rfl rfl rfl rfl t56 ?_
                intro p173 p173e p173k; replace p173k : p173 = some 90 := p173k; clear p173e; subst p173k
                refine z_iload_n (pc2 := 180) rfl rfl rfl ?_
                refine z_iload (pc2 := 182) rfl rfl rfl ?_
                refine z_iadd (pc2 := 183) rfl rfl ?_
                refine z_lald (pc2 := 184) rfl rfl t90 (by omega) (by omega) (by decide) ?_
                intro g174 g174e; clear g174e
                refine z_ladd (pc2 := 185) rfl rfl ?_
                refine z_ladd (pc2 := 186) rfl rfl ?_
                refine z_lstore (lv2 := [(8, _), (7, _), (4, _), (6, _), (0, _), (1, _), (2, _), (3, _), (5, _)]) (pc2 := 188) rfl rfl rfl rfl ?_
                refine z_iload (pc2 := 190) rfl rfl rfl ?_
                refine z_iconst (pc2 := 191) rfl rfl ?_
                refine z_icmp_eq (t := 206) (pc2 := 194) rfl rfl rfl (by omega) (by omega) (fun c175 => ?_) (fun c175 => by exfalso; omega)
                refine z_aload_n (pc2 := 207) rfl rfl rfl ?_
                refine z_getP (pc2 := 210) rfl rfl rfl rfl t56 ?_
                intro p176 p176e p176k; replace p176k : p176 = some 89 := p176k; clear p176e; subst p176k
                refine z_iload_n (pc2 := 211) rfl rfl rfl ?_
                refine z_iload (pc2 := 213) rfl rfl rfl ?_
                refine z_iast (pc2 := 214) rfl rfl t89 (by omega) (by omega) (by decide) (by omega) (by show (0 : Int) ≤ _ ∧ _ ≤ 100; omega) ?_
                refine z_aload_n (pc2 := 215) rfl rfl rfl ?_
                refine z_getP (pc2 := 218) rfl rfl rfl rfl t56 ?_
                intro p177 p177e p177k; replace p177k : p177 = some 90 := p177k; clear p177e; subst p177k
                refine z_iload_n (pc2 := 219) rfl rfl rfl ?_
                refine z_lload (pc2 := 221) rfl rfl rfl ?_
                refine z_last (pc2 := 222) rfl rfl t90 (by omega) (by omega) (by decide) ?_
                refine z_iinc (lv2 := [(5, _), (8, _), (7, _), (4, _), (6, _), (0, _), (1, _), (2, _), (3, _)]) (pc2 := 225) rfl rfl rfl rfl rfl ?_
                refine z_goto (pc2 := 32) rfl rfl ?_
                refine z_lv (lv2 := [(0, _), (1, _), (2, _), (3, _), (4, _), (5, _)]) ⟨rfl, rfl, rfl, rfl, rfl, rfl, trivial⟩ ?_
                exact ih _ _ _ _ _ (by first | assumption | exact (congrFun (zU_row _ _ _ (by decide)) _).trans (by assumption)) (by omega) (by omega) (by omega) (by repeat (first | exact zPq_rf _ | assumption | refine zPq_r ?_ | refine zPq_f ?_ (by decide))) (by omega) (by first | assumption | exact zNp_r (by assumption)) (by first | assumption | exact zPm_u (by assumption) (by omega)) (by first | omega | (refine Or.inr ⟨?_, ?_, ?_⟩ <;> rw [zU_same] <;> omega)) (by omega) (by omega)
              ·
                refine z_ldc2 (1000000) (pc2 := 170) rfl rfl rfl ?_
                refine z_goto (pc2 := 174) rfl rfl ?_
                refine z_ladd (pc2 := 175) rfl rfl ?_
                refine z_aload_n (pc2 := 176) rfl rfl rfl ?_
                refine z_getP (pc2 := 179) rfl rfl rfl rfl t56 ?_
                intro p178 p178e p178k; replace p178k : p178 = some 90 := p178k; clear p178e; subst p178k
                refine z_iload_n (pc2 := 180) rfl rfl rfl ?_
                refine z_iload (pc2 := 182) rfl rfl rfl ?_
                refine z_iadd (pc2 := 183) rfl rfl ?_
                refine z_lald (pc2 := 184) rfl rfl t90 (by omega) (by omega) (by decide) ?_
                intro g179 g179e; clear g179e
                refine z_ladd (pc2 := 185) rfl rfl ?_
                refine z_ladd (pc2 := 186) rfl rfl ?_
                refine z_lstore (lv2 := [(8, _), (7, _), (4, _), (6, _), (0, _), (1, _), (2, _), (3, _), (5, _)]) (pc2 := 188) rfl rfl rfl rfl ?_
                refine z_iload (pc2 := 190) rfl rfl rfl ?_
                refine z_iconst (pc2 := 191) rfl rfl ?_
                refine z_icmp_eq (t := 206) (pc2 := 194) rfl rfl rfl (by omega) (by omega) (fun c180 => ?_) (fun c180 => by exfalso; omega)
                refine z_aload_n (pc2 := 207) rfl rfl rfl ?_
                refine z_getP (pc2 := 210) rfl rfl rfl rfl t56 ?_
                intro p181 p181e p181k; replace p181k : p181 = some 89 := p181k; clear p181e; subst p181k
                refine z_iload_n (pc2 := 211) rfl rfl rfl ?_
                refine z_iload (pc2 := 213) rfl rfl rfl ?_
                refine z_iast (pc2 := 214) rfl rfl t89 (by omega) (by omega) (by decide) (by omega) (by show (0 : Int) ≤ _ ∧ _ ≤ 100; omega) ?_
                refine z_aload_n (pc2 := 215) rfl rfl rfl ?_
                refine z_getP (pc2 := 218) rfl rfl rfl rfl t56 ?_
                intro p182 p182e p182k; replace p182k : p182 = some 90 := p182k; clear p182e; subst p182k
                refine z_iload_n (pc2 := 219) rfl rfl rfl ?_
                refine z_lload (pc2 := 221) rfl rfl rfl ?_
                refine z_last (pc2 := 222) rfl rfl t90 (by omega) (by omega) (by decide) ?_
                refine z_iinc (lv2 := [(5, _), (8, _), (7, _), (4, _), (6, _), (0, _), (1, _), (2, _), (3, _)]) (pc2 := 225) rfl rfl rfl rfl rfl ?_
                refine z_goto (pc2 := 32) rfl rfl ?_
                refine z_lv (lv2 := [(0, _), (1, _), (2, _), (3, _), (4, _), (5, _)]) ⟨rfl, rfl, rfl, rfl, rfl, rfl, trivial⟩ ?_
                exact ih _ _ _ _ _ (by first | assumption | exact (congrFun (zU_row _ _ _ (by decide)) _).trans (by assumption)) (by omega) (by omega) (by omega) (by repeat (first | exact zPq_rf _ | assumption | refine zPq_r ?_ | refine zPq_f ?_ (by decide))) (by omega) (by first | assumption | exact zNp_r (by assumption)) (by first | assumption | exact zPm_u (by assumption) (by omega)) (by first | omega | (refine Or.inr ⟨?_, ?_, ?_⟩ <;> rw [zU_same] <;> omega)) (by omega) (by omega)
          ·
            refine z_iload (pc2 := 90) rfl rfl rfl ?_
            refine z_if_ne (t := 222) (pc2 := 93) rfl rfl rfl (by omega) (fun c183 => ?_) (fun c183 => by exfalso; omega)
            refine z_iinc (lv2 := [(5, _), (4, _), (6, _), (0, _), (1, _), (2, _), (3, _)]) (pc2 := 225) rfl rfl rfl rfl rfl ?_
            refine z_goto (pc2 := 32) rfl rfl ?_
            refine z_lv (lv2 := [(0, _), (1, _), (2, _), (3, _), (4, _), (5, _)]) ⟨rfl, rfl, rfl, rfl, rfl, rfl, trivial⟩ ?_
            exact ih _ _ _ _ _ (by first | assumption | exact (congrFun (zU_row _ _ _ (by decide)) _).trans (by assumption)) (by omega) (by omega) (by omega) (by repeat (first | exact zPq_rf _ | assumption | refine zPq_r ?_ | refine zPq_f ?_ (by decide))) (by omega) (by first | assumption | exact zNp_r (by assumption)) (by first | assumption | exact zPm_u (by assumption) (by omega)) (by first | omega | (refine Or.inr ⟨?_, ?_, ?_⟩ <;> rw [zU_same] <;> omega)) (by omega) (by omega)
set_option maxHeartbeats 8000000 in
theorem l_choosePages1 {L : Nat} {xs : Nat → Int32} {n sl : Nat} {T : Nat → zT} {I : Nat → Nat → Int} {P : Nat → Nat → Option Nat} {K : List zV → zH → Prop} {x w q : Int} (hT : ∀ a, 56 ≤ a → a ≤ 90 → T a = zFix a) (hx : 1 ≤ x ∧ x ≤ 60) (hw : 1 ≤ w ∧ w ≤ 40) (hq : 0 ≤ q ∧ q ≤ 1) (hq3 : I 56 3 = q) (hht : zHt q w I) (hK : ∀ I2 G2, zPq I I2 → zPm w (-1) I2 → K [] (n, sl, T, I2, P, G2)) (m : Nat) : ∀ (I2 : Nat → Nat → Int) (G2 : Nat → Nat → Int), ∀ (a : Int), -1 ≤ a ∧ a ≤ 39 → zPq I I2 → a < w → zPm w a I2 → (a + 1).toNat < m → zB zMd L xs 250 11 [(0, .inr (.inl (some 56))), (1, .inl x), (2, .inl w), (3, .inl a)] [] (n, sl, T, I2, P, G2) K := by
  have t56 : T 56 = (1, 12, [1]) := hT 56 (by decide) (by decide)
  have t89 : T 89 = (2, 0, [100, 14]) := hT 89 (by decide) (by decide)
  induction m with
  | zero => intro I2 G2 a ha hI2 hb3 hm3 hm; omega
  | succ m ih =>
    intro I2 G2 a ha hI2 hb3 hm3 hm
    refine z_iload_n (pc2 := 12) rfl rfl rfl ?_
    refine z_if_lt (t := 234) (pc2 := 15) rfl rfl rfl (by omega) (fun c1 => ?_) (fun c1 => ?_)
    ·
      refine z_ret rfl rfl ?_
      exact hK _ _ hI2 (by rw [show (-1 : Int) = a by omega]; exact hm3)
    ·
      refine z_aload_n (pc2 := 16) rfl rfl rfl ?_
      refine z_getP (pc2 := 19) rfl rfl rfl rfl t56 ?_
      intro p2 p2e p2k; replace p2k : p2 = some 89 := p2k; clear p2e; subst p2k
      refine z_iload_n (pc2 := 20) rfl rfl rfl ?_
      refine z_iconst (pc2 := 21) rfl rfl ?_
      refine z_iast (pc2 := 22) rfl rfl t89 (by omega) (by omega) (by decide) (by omega) (by show (0 : Int) ≤ _ ∧ _ ≤ 100; omega) ?_
      refine z_aload_n (pc2 := 23) rfl rfl rfl ?_
      refine z_callV (y2 := 246) (as := []) (rest := []) (pc2 := 26) rfl rfl rfl rfl t56 rfl ?_
      refine z_inl ?_
      refine z_lv (lv2 := [(0, _)]) ⟨rfl, trivial⟩ ?_
      refine z_aload_n (pc2 := 1) rfl rfl rfl ?_
      refine z_iconst (pc2 := 2) rfl rfl ?_
      refine z_putI (pc2 := 5) rfl rfl rfl rfl rfl rfl t56 (by omega) (by show (0 : Int) ≤ _ ∧ _ ≤ 20000; omega) ?_
      refine z_aload_n (pc2 := 6) rfl rfl rfl ?_
      refine z_iconst (pc2 := 7) rfl rfl ?_
      refine z_putI (pc2 := 10) rfl rfl rfl rfl rfl rfl t56 (by omega) (by show (0 : Int) ≤ _ ∧ _ ≤ 12; omega) ?_
      refine z_ret rfl rfl ?_
      show zB _ _ _ _ _ _ [] _ _
      refine z_iconst (pc2 := 27) rfl rfl ?_
      refine z_istore (lv2 := [(4, _), (0, _), (1, _), (2, _), (3, _)]) (pc2 := 29) rfl rfl rfl rfl ?_
      refine z_iconst (pc2 := 30) rfl rfl ?_
      refine z_istore (lv2 := [(5, _), (4, _), (0, _), (1, _), (2, _), (3, _)]) (pc2 := 32) rfl rfl rfl rfl ?_
      refine z_lv (lv2 := [(0, _), (1, _), (2, _), (3, _), (4, _), (5, _)]) ⟨rfl, rfl, rfl, rfl, rfl, rfl, trivial⟩ ?_
      exact l_choosePages2 (q := q) hT (by omega) (by omega) (by omega) (by omega) (by omega) hq3 hht (fun I3 G3 h1 h2 => ih I3 G3 _ (by omega) h1 (by omega) h2 (by omega)) trivial _ _ _ _ _ 0 (by simp [zU]) (by omega) (by omega) (by omega) (by repeat (first | exact zPq_rf _ | assumption | refine zPq_r ?_ | refine zPq_f ?_ (by decide))) (by omega) (zNp_0 (by simp [zU])) (by repeat (first | exact zPm_u hm3 (by omega) | refine zPm_f ?_)) (Or.inl rfl) (by omega) (Nat.lt_succ_self _)
set_option maxHeartbeats 8000000 in
theorem m_choosePages {L : Nat} {xs : Nat → Int32} {n sl : Nat} {T : Nat → zT} {I : Nat → Nat → Int} {P : Nat → Nat → Option Nat} {G : Nat → Nat → Int} {K : List zV → zH → Prop} {x w q : Int} (hT : ∀ a, 56 ≤ a → a ≤ 90 → T a = zFix a) (hx : 1 ≤ x ∧ x ≤ 60) (hw : 1 ≤ w ∧ w ≤ 40) (hq : 0 ≤ q ∧ q ≤ 1) (hq3 : I 56 3 = q) (hht : zHt q w I) (hK : ∀ I2 G2, zPq I I2 → zPm w (-1) I2 → K [] (n, sl, T, I2, P, G2)) : zX zMd L xs 250 [.inr (.inl (some 56)), .inl x, .inl w] (n, sl, T, I, P, G) K := by
  have t56 : T 56 = (1, 12, [1]) := hT 56 (by decide) (by decide)
  have t90 : T 90 = (2, 1, [101, 0]) := hT 90 (by decide) (by decide)
  refine z_inl ?_
  refine z_lv (lv2 := [(0, _), (1, _), (2, _)]) ⟨rfl, rfl, rfl, trivial⟩ ?_
  refine z_aload_n (pc2 := 1) rfl rfl rfl ?_
  refine z_getP (pc2 := 4) rfl rfl rfl rfl t56 ?_
  intro p1 p1e p1k; replace p1k : p1 = some 90 := p1k; clear p1e; subst p1k
  refine z_iload_n (pc2 := 5) rfl rfl rfl ?_
  refine z_lconst 0 (pc2 := 6) rfl rfl rfl ?_
  refine z_last (pc2 := 7) rfl rfl t90 (by omega) (by omega) (by decide) ?_
  refine z_iload_n (pc2 := 8) rfl rfl rfl ?_
  refine z_iconst (pc2 := 9) rfl rfl ?_
  refine z_isub (pc2 := 10) rfl rfl ?_
  refine z_istore_n (lv2 := [(3, _), (0, _), (1, _), (2, _)]) (pc2 := 11) rfl rfl rfl rfl ?_
  refine z_lv (lv2 := [(0, _), (1, _), (2, _), (3, _)]) ⟨rfl, rfl, rfl, rfl, trivial⟩ ?_
  exact l_choosePages1 hT (q := q) (by omega) (by omega) (by omega) hq3 hht hK _ _ _ _ (by omega) (zPq_rf _) (by omega) (fun j h1 h2 => by omega) (Nat.lt_succ_self _)
