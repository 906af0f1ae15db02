/-! the reference: a page takes a line -/
set_option maxHeartbeats 8000000 in
theorem l_pageTakes2 {L : Nat} {xs : Nat → Int32} {n sl : Nat} {T : Nat → zT} {I : Nat → Nat → Int} {P : Nat → Nat → Option Nat} {G : Nat → Nat → Int} {K : List zV → zH → Prop} {a q l k p N H2 : Int} (hT : ∀ a, 56 ≤ a → a ≤ 90 → T a = zFix a) (ha : 0 ≤ a ∧ a ≤ 112200) (hq : 0 ≤ q ∧ q ≤ 1) (hl : 0 ≤ l ∧ l ≤ 88) (hk : 0 ≤ k ∧ k ≤ 12) (hp : 0 ≤ p ∧ p ≤ 11) (hN : 0 ≤ N ∧ N ≤ 12) (hH2 : 0 ≤ H2 ∧ H2 ≤ 15000) (hat : a = 56100 * q + 1940 + 66 * l) (hq3 : I 56 3 = q) (hN2 : I 56 45 = N) (hH2x : I 56 44 = H2) (hn : zNp I) (hr : ∀ k, 0 ≤ I 88 k ∧ I 88 k ≤ 11) (hE : ∀ (I3 G3 : Nat → Nat → Int) (H3 : Int), zPg I I3 → zNp I3 → I3 56 44 = H3 → (H2 ≤ H3 ∧ H3 ≤ H2 + 9) → zB zMd L xs 247 34 [(0, .inr (.inl (some 56))), (2, .inl a), (3, .inl (k + 1))] [] (n, sl, T, I3, P, G3) K) (hK : True) (m : Nat) : ∀ (h j : Int), 0 ≤ h ∧ h ≤ 1 → 0 ≤ j ∧ j ≤ 12 → (h = 0 → ∀ i : Nat, (i : Int) < j → I 88 i ≠ p) → (12 - j).toNat < m → zB zMd L xs 247 66 [(0, .inr (.inl (some 56))), (2, .inl a), (3, .inl k), (4, .inl p), (5, .inl h), (6, .inl j)] [] (n, sl, T, I, P, G) K := by
  have t56 : T 56 = (1, 12, [1]) := hT 56 (by decide) (by decide)
  have t79 : T 79 = (2, 0, [24, 12]) := hT 79 (by decide) (by decide)
  have t88 : T 88 = (2, 0, [12, 9]) := hT 88 (by decide) (by decide)
  induction m with
  | zero => intro h j hh hj hh hm; omega
  | succ m ih =>
    intro h j hh hj hh hm
    refine z_iload (pc2 := 68) rfl rfl rfl ?_
    refine z_aload_n (pc2 := 69) rfl rfl rfl ?_
    refine z_getI (pc2 := 72) 0 rfl rfl rfl rfl rfl t56 ?_
    intro v1 e1 r1 k1
    replace k1 : (0 : Int) ≤ v1 ∧ v1 ≤ 12 := k1; clear r1
    replace e1 : N = v1 := by rw [e1]; first | exact hN2 | exact Eq.symm hN2 | (simp [zU]; first | done | exact hN2 | exact Eq.symm hN2 | omega)
    subst e1
    refine z_icmp_ge (t := 105) (pc2 := 75) rfl rfl rfl (by omega) (by omega) (fun c2 => ?_) (fun c2 => ?_)
    ·
      refine z_iload (pc2 := 107) rfl rfl rfl ?_
      refine z_if_ne (t := 155) (pc2 := 110) rfl rfl rfl (by omega) (fun c3 => ?_) (fun c3 => ?_)
      ·
        refine z_iinc (lv2 := [(3, _), (0, _), (2, _), (4, _), (5, _), (6, _)]) (pc2 := 158) rfl rfl rfl rfl rfl ?_
        refine z_goto (pc2 := 34) rfl rfl ?_
        refine z_lv (lv2 := [(0, _), (2, _), (3, _)]) ⟨rfl, rfl, rfl, trivial⟩ ?_
        first | exact hE _ _ H2 (zPg_rf _) hn hH2x (by omega) | exact hE _ _ _ (by repeat (first | exact zPg_rf _ | assumption | refine zPg_a ?_ | refine zPg_f ?_ (by decide))) (zNp_put hn hN2 (by omega) (fun i hi => hh (by omega) i (by omega))) (zU_same _ _ _ _) (by omega)
      ·
        have hlt := zNp_lt hn hr (by omega) (fun i hi => hh (by omega) i (by omega))
        refine z_aload_n (pc2 := 111) rfl rfl rfl ?_
        refine z_getP (pc2 := 114) rfl rfl rfl rfl t56 ?_
        intro p4 p4e p4k; replace p4k : p4 = some 88 := p4k; clear p4e; subst p4k
        refine z_aload_n (pc2 := 115) rfl rfl rfl ?_
        refine z_getI (pc2 := 118) 0 rfl rfl rfl rfl rfl t56 ?_
        intro v5 e5 r5 k5
        replace k5 : (0 : Int) ≤ v5 ∧ v5 ≤ 12 := k5; clear r5
        replace e5 : N = v5 := by rw [e5]; first | exact hN2 | exact Eq.symm hN2 | (simp [zU]; first | done | exact hN2 | exact Eq.symm hN2 | omega)
        subst e5
        refine z_iload (pc2 := 120) rfl rfl rfl ?_
        refine z_iast (pc2 := 121) rfl rfl t88 (by omega) (by omega) (by decide) (by omega) (by show (0 : Int) ≤ _ ∧ _ ≤ 11; omega) ?_
        refine z_aload_n (pc2 := 122) rfl rfl rfl ?_
        refine z_dup (pc2 := 123) rfl rfl rfl ?_
        refine z_getI (pc2 := 126) 0 rfl rfl rfl rfl rfl t56 ?_
        intro v6 e6 r6 k6
        replace k6 : (0 : Int) ≤ v6 ∧ v6 ≤ 12 := k6; clear r6
        replace e6 : N = v6 := by rw [e6]; first | exact hN2 | exact Eq.symm hN2 | (simp [zU]; first | done | exact hN2 | exact Eq.symm hN2 | omega)
        subst e6
        refine z_iconst (pc2 := 127) rfl rfl ?_
        refine z_iadd (pc2 := 128) rfl rfl ?_
        refine z_putI (pc2 := 131) rfl rfl rfl rfl rfl rfl t56 (by omega) (by show (0 : Int) ≤ _ ∧ _ ≤ 12; omega) ?_
        refine z_aload_n (pc2 := 132) rfl rfl rfl ?_
        refine z_dup (pc2 := 133) rfl rfl rfl ?_
        refine z_getI (pc2 := 136) 0 rfl rfl rfl rfl rfl t56 ?_
        intro v7 e7 r7 k7
        replace k7 : (0 : Int) ≤ v7 ∧ v7 ≤ 20000 := k7; clear r7
        replace e7 : H2 = v7 := by rw [e7]; first | exact hH2x | exact Eq.symm hH2x | (simp [zU]; first | done | exact hH2x | exact Eq.symm hH2x | omega)
        subst e7
        refine z_aload_n (pc2 := 137) rfl rfl rfl ?_
        refine z_getP (pc2 := 140) rfl rfl rfl rfl t56 ?_
        intro p8 p8e p8k; replace p8k : p8 = some 79 := p8k; clear p8e; subst p8k
        refine z_bipush (pc2 := 142) rfl rfl (by decide) ?_
        refine z_aload_n (pc2 := 143) rfl rfl rfl ?_
        refine z_getI (pc2 := 146) 0 rfl rfl rfl rfl rfl t56 ?_
        intro v9 e9 r9 k9
        replace k9 : (0 : Int) ≤ v9 ∧ v9 ≤ 1 := k9; clear r9
        replace e9 : q = v9 := by rw [e9]; first | exact hq3 | exact Eq.symm hq3 | (simp [zU]; first | done | exact hq3 | exact Eq.symm hq3 | omega)
        subst e9
        refine z_imul (pc2 := 147) rfl rfl ?_
        refine z_iload (pc2 := 149) rfl rfl rfl ?_
        refine z_iadd (pc2 := 150) rfl rfl ?_
        refine z_iald (pc2 := 151) rfl rfl t79 (by omega) (by omega) (by decide) ?_
        intro v10 e10 r10 k10
        clear e10
        replace k10 : (0 : Int) ≤ v10 ∧ v10 ≤ 9 := k10; clear r10
        refine z_iadd (pc2 := 152) rfl rfl ?_
        refine z_putI (pc2 := 155) rfl rfl rfl rfl rfl rfl t56 (by omega) (by show (0 : Int) ≤ _ ∧ _ ≤ 20000; omega) ?_
        refine z_iinc (lv2 := [(3, _), (0, _), (2, _), (4, _), (5, _), (6, _)]) (pc2 := 158) rfl rfl rfl rfl rfl ?_
        refine z_goto (pc2 := 34) rfl rfl ?_
        refine z_lv (lv2 := [(0, _), (2, _), (3, _)]) ⟨rfl, rfl, rfl, trivial⟩ ?_
        first | exact hE _ _ H2 (zPg_rf _) hn hH2x (by omega) | exact hE _ _ _ (by repeat (first | exact zPg_rf _ | assumption | refine zPg_a ?_ | refine zPg_f ?_ (by decide))) (zNp_put hn hN2 (by omega) (fun i hi => hh (by omega) i (by omega))) (zU_same _ _ _ _) (by omega)
    ·
      refine z_iload (pc2 := 77) rfl rfl rfl ?_
      refine z_if_ne (t := 92) (pc2 := 80) rfl rfl rfl (by omega) (fun c11 => ?_) (fun c11 => ?_)
      ·
        refine z_iconst (pc2 := 93) rfl rfl ?_
        refine z_goto (pc2 := 97) rfl rfl ?_
        refine z_istore (lv2 := [(5, _), (0, _), (2, _), (3, _), (4, _), (6, _)]) (pc2 := 99) rfl rfl rfl rfl ?_
        refine z_iinc (lv2 := [(6, _), (5, _), (0, _), (2, _), (3, _), (4, _)]) (pc2 := 102) rfl rfl rfl rfl rfl ?_
        refine z_goto (pc2 := 66) rfl rfl ?_
        refine z_lv (lv2 := [(0, _), (2, _), (3, _), (4, _), (5, _), (6, _)]) ⟨rfl, rfl, rfl, rfl, rfl, rfl, trivial⟩ ?_
        exact ih _ _ (by omega) (by omega) (fun h0 => by first | (exfalso; omega) | exact zNq_step hh (by omega) (by assumption) (by omega) (by omega)) (by omega)
      ·
        refine z_aload_n (pc2 := 81) rfl rfl rfl ?_
        refine z_getP (pc2 := 84) rfl rfl rfl rfl t56 ?_
        intro p12 p12e p12k; replace p12k : p12 = some 88 := p12k; clear p12e; subst p12k
        refine z_iload (pc2 := 86) rfl rfl rfl ?_
        refine z_iald (pc2 := 87) rfl rfl t88 (by omega) (by omega) (by decide) ?_
        intro v13 e13 r13 k13
        replace k13 : (0 : Int) ≤ v13 ∧ v13 ≤ 11 := k13; clear r13
        refine z_iload (pc2 := 89) rfl rfl rfl ?_
        refine z_icmp_ne (t := 96) (pc2 := 92) rfl rfl rfl (by omega) (by omega) (fun c14 => ?_) (fun c14 => ?_)
        ·
          refine z_iconst (pc2 := 97) rfl rfl ?_
          refine z_istore (lv2 := [(5, _), (0, _), (2, _), (3, _), (4, _), (6, _)]) (pc2 := 99) rfl rfl rfl rfl ?_
          refine z_iinc (lv2 := [(6, _), (5, _), (0, _), (2, _), (3, _), (4, _)]) (pc2 := 102) rfl rfl rfl rfl rfl ?_
          refine z_goto (pc2 := 66) rfl rfl ?_
          refine z_lv (lv2 := [(0, _), (2, _), (3, _), (4, _), (5, _), (6, _)]) ⟨rfl, rfl, rfl, rfl, rfl, rfl, trivial⟩ ?_
          exact ih _ _ (by omega) (by omega) (fun h0 => by first | (exfalso; omega) | exact zNq_step hh (by omega) (by assumption) (by omega) (by omega)) (by omega)
        ·
          refine z_iconst (pc2 := 93) rfl rfl ?_
          refine z_goto (pc2 := 97) rfl rfl ?_
          refine z_istore (lv2 := [(5, _), (0, _), (2, _), (3, _), (4, _), (6, _)]) (pc2 := 99) rfl rfl rfl rfl ?_
          refine z_iinc (lv2 := [(6, _), (5, _), (0, _), (2, _), (3, _), (4, _)]) (pc2 := 102) rfl rfl rfl rfl rfl ?_
          refine z_goto (pc2 := 66) rfl rfl ?_
          refine z_lv (lv2 := [(0, _), (2, _), (3, _), (4, _), (5, _), (6, _)]) ⟨rfl, rfl, rfl, rfl, rfl, rfl, trivial⟩ ?_
          exact ih _ _ (by omega) (by omega) (fun h0 => by first | (exfalso; omega) | exact zNq_step hh (by omega) (by assumption) (by omega) (by omega)) (by omega)
set_option maxHeartbeats 8000000 in
theorem l_pageTakes1 {L : Nat} {xs : Nat → Int32} {n sl : Nat} {T : Nat → zT} {I : Nat → Nat → Int} {P : Nat → Nat → Option Nat} {K : List zV → zH → Prop} {a q l H : Int} (hT : ∀ a, 56 ≤ a → a ≤ 90 → T a = zFix a) (ha : 0 ≤ a ∧ a ≤ 112200) (hq : 0 ≤ q ∧ q ≤ 1) (hl : 0 ≤ l ∧ l ≤ 88) (hH : 0 ≤ H ∧ H ≤ 10000) (hat : a = 56100 * q + 1940 + 66 * l) (hq3 : I 56 3 = q) (hK : ∀ I2 G2 H2, zPg I I2 → zNp I2 → I2 56 44 = H2 → (H + 1 ≤ H2 ∧ H2 ≤ H + 111) → K [] (n, sl, T, I2, P, G2)) (m : Nat) : ∀ (I2 : Nat → Nat → Int) (G2 : Nat → Nat → Int), ∀ (k H2 : Int), I2 56 44 = H2 → 0 ≤ k ∧ k ≤ 12 → 0 ≤ H2 ∧ H2 ≤ 15000 → zPg I I2 → H + 1 ≤ H2 ∧ H2 ≤ H + 3 + 9 * k → zNp I2 → (12 - k).toNat < m → zB zMd L xs 247 34 [(0, .inr (.inl (some 56))), (2, .inl a), (3, .inl k)] [] (n, sl, T, I2, P, G2) K := by
  have t56 : T 56 = (1, 12, [1]) := hT 56 (by decide) (by decide)
  have t57 : T 57 = (2, 0, [112200, 1]) := hT 57 (by decide) (by decide)
  induction m with
  | zero => intro I2 G2 k H2 hH3 hk hH2 hI2 hb3 hn3 hm; omega
  | succ m ih =>
    intro I2 G2 k H2 hH3 hk hH2 hI2 hb3 hn3 hm
    refine z_iload_n (pc2 := 35) rfl rfl rfl ?_
    refine z_aload_n (pc2 := 36) rfl rfl rfl ?_
    refine z_getP (pc2 := 39) rfl rfl rfl rfl t56 ?_
    intro p1 p1e p1k; replace p1k : p1 = some 57 := p1k; clear p1e; subst p1k
    refine z_iload_n (pc2 := 40) rfl rfl rfl ?_
    refine z_bipush (pc2 := 42) rfl rfl (by decide) ?_
    refine z_iadd (pc2 := 43) rfl rfl ?_
    refine z_iald (pc2 := 44) rfl rfl t57 (by omega) (by omega) (by decide) ?_
    intro v2 e2 r2 k2
    clear e2
    replace k2 := ok_lnotes k2 (by omega); clear r2
    refine z_icmp_ge (t := 161) (pc2 := 47) rfl rfl rfl (by omega) (by omega) (fun c3 => ?_) (fun c3 => ?_)
    ·
      refine z_ret rfl rfl ?_
      exact hK _ _ _ hI2 hn3 hH3 (by omega)
    ·
      refine z_aload_n (pc2 := 48) rfl rfl rfl ?_
      refine z_getP (pc2 := 51) rfl rfl rfl rfl t56 ?_
      intro p4 p4e p4k; replace p4k : p4 = some 57 := p4k; clear p4e; subst p4k
      refine z_iload_n (pc2 := 52) rfl rfl rfl ?_
      refine z_bipush (pc2 := 54) rfl rfl (by decide) ?_
      refine z_iadd (pc2 := 55) rfl rfl ?_
      refine z_iload_n (pc2 := 56) rfl rfl rfl ?_
      refine z_iadd (pc2 := 57) rfl rfl ?_
      refine z_iald (pc2 := 58) rfl rfl t57 (by omega) (by omega) (by decide) ?_
      intro v5 e5 r5 k5
      clear e5
      replace k5 := ok_lnote k5 (by omega); clear r5
      refine z_istore (lv2 := [(4, _), (0, _), (2, _), (3, _)]) (pc2 := 60) rfl rfl rfl rfl ?_
      refine z_iconst (pc2 := 61) rfl rfl ?_
      refine z_istore (lv2 := [(5, _), (4, _), (0, _), (2, _), (3, _)]) (pc2 := 63) rfl rfl rfl rfl ?_
      refine z_iconst (pc2 := 64) rfl rfl ?_
      refine z_istore (lv2 := [(6, _), (5, _), (4, _), (0, _), (2, _), (3, _)]) (pc2 := 66) rfl rfl rfl rfl ?_
      refine z_lv (lv2 := [(0, _), (2, _), (3, _), (4, _), (5, _), (6, _)]) ⟨rfl, rfl, rfl, rfl, rfl, rfl, trivial⟩ ?_
      refine zB_wf (fun hw => ?_)
      have hr8 := zR88 hT hw
      exact l_pageTakes2 (I := I2) (G := G2) (q := q) (l := l) (N := I2 56 45) (H2 := H2) hT (by omega) (by omega) (by omega) (by omega) (by omega) hr8.2 (by omega) hat (zPg_k hI2 (by decide) hq3) rfl hH3 hn3 hr8.1 (fun I3 G3 H3 h1 h2 h3 h4 => ih I3 G3 _ H3 h3 (by omega) (by omega) (zPg_tr hI2 h1) (by omega) h2 (by omega)) trivial _ _ _ (by omega) (by omega) (fun _ i hi => by omega) (Nat.lt_succ_self _)
set_option maxHeartbeats 8000000 in
theorem m_pageTakes {L : Nat} {xs : Nat → Int32} {n sl : Nat} {T : Nat → zT} {I : Nat → Nat → Int} {P : Nat → Nat → Option Nat} {G : Nat → Nat → Int} {K : List zV → zH → Prop} {l q H : Int} (hT : ∀ a, 56 ≤ a → a ≤ 90 → T a = zFix a) (hl : 0 ≤ l ∧ l ≤ 88) (hq : 0 ≤ q ∧ q ≤ 1) (hH : 0 ≤ H ∧ H ≤ 10000) (hq3 : I 56 3 = q) (hH3 : I 56 44 = H) (hn : zNp I) (hht : ∀ fo, fo = I 57 (56100 * q + 1940 + 66 * l + 1).toNat → 1 ≤ I 74 (4 * q + fo).toNat) (hK : ∀ I2 G2 H2, zPg I I2 → zNp I2 → I2 56 44 = H2 → (H + 1 ≤ H2 ∧ H2 ≤ H + 111) → K [] (n, sl, T, I2, P, G2)) : zX zMd L xs 247 [.inr (.inl (some 56)), .inl l] (n, sl, T, I, P, G) K := by
  have t56 : T 56 = (1, 12, [1]) := hT 56 (by decide) (by decide)
  have t57 : T 57 = (2, 0, [112200, 1]) := hT 57 (by decide) (by decide)
  have t74 : T 74 = (2, 0, [8, 13]) := hT 74 (by decide) (by decide)
  refine z_inl ?_
  refine z_lv (lv2 := [(0, _), (1, _)]) ⟨rfl, rfl, trivial⟩ ?_
  refine z_aload_n (pc2 := 1) rfl rfl rfl ?_
  refine z_iload_n (pc2 := 2) rfl rfl rfl ?_
  refine z_callV (y2 := 238) (as := [_]) (rest := []) (pc2 := 5) rfl rfl rfl rfl t56 rfl ?_
  refine z_inl ?_
  refine z_lv (lv2 := [(0, _), (1, _)]) ⟨rfl, rfl, trivial⟩ ?_
  refine z_aload_n (pc2 := 1) rfl rfl rfl ?_
  refine z_callV (y2 := 162) (as := []) (rest := []) (pc2 := 4) rfl rfl rfl rfl t56 rfl ?_
  refine z_inl ?_
  refine z_lv (lv2 := [(0, _)]) ⟨rfl, trivial⟩ ?_
  refine z_ldc (56100) (pc2 := 2) rfl rfl rfl ?_
  refine z_aload_n (pc2 := 3) rfl rfl rfl ?_
  refine z_getI (pc2 := 6) 0 rfl rfl rfl rfl rfl t56 ?_
  intro v1 e1 r1 k1
  replace k1 : (0 : Int) ≤ v1 ∧ v1 ≤ 1 := k1; clear r1
  replace e1 : q = v1 := by rw [e1]; first | exact hq3 | exact Eq.symm hq3 | (simp [zU]; first | done | exact hq3 | exact Eq.symm hq3 | omega)
  subst e1
  refine z_imul (pc2 := 7) rfl rfl ?_
  refine z_iret rfl rfl ?_
  show zB _ _ _ _ _ _ [_] _ _
  refine z_sipush (pc2 := 7) rfl rfl (by decide) ?_
  refine z_iadd (pc2 := 8) rfl rfl ?_
  refine z_bipush (pc2 := 10) rfl rfl (by decide) ?_
  refine z_iload_n (pc2 := 11) rfl rfl rfl ?_
  refine z_imul (pc2 := 12) rfl rfl ?_
  refine z_iadd (pc2 := 13) rfl rfl ?_
  refine z_iret rfl rfl ?_
  show zB _ _ _ _ _ _ [_] _ _
  refine z_istore_n (lv2 := [(2, _), (0, _), (1, _)]) (pc2 := 6) rfl rfl rfl rfl ?_
  refine z_aload_n (pc2 := 7) rfl rfl rfl ?_
  refine z_dup (pc2 := 8) rfl rfl rfl ?_
  refine z_getI (pc2 := 11) 0 rfl rfl rfl rfl rfl t56 ?_
  intro v2 e2 r2 k2
  replace k2 : (0 : Int) ≤ v2 ∧ v2 ≤ 20000 := k2; clear r2
  replace e2 : H = v2 := by rw [e2]; first | exact hH3 | exact Eq.symm hH3 | (simp [zU]; first | done | exact hH3 | exact Eq.symm hH3 | omega)
  subst e2
  refine z_aload_n (pc2 := 12) rfl rfl rfl ?_
  refine z_getP (pc2 := 15) rfl rfl rfl rfl t56 ?_
  intro p3 p3e p3k; replace p3k : p3 = some 74 := p3k; clear p3e; subst p3k
  refine z_aload_n (pc2 := 16) rfl rfl rfl ?_
  refine z_aload_n (pc2 := 17) rfl rfl rfl ?_
  refine z_getP (pc2 := 20) rfl rfl rfl rfl t56 ?_
  intro p4 p4e p4k; replace p4k : p4 = some 57 := p4k; clear p4e; subst p4k
  refine z_iload_n (pc2 := 21) rfl rfl rfl ?_
  refine z_iconst (pc2 := 22) rfl rfl ?_
  refine z_iadd (pc2 := 23) rfl rfl ?_
  refine z_iald (pc2 := 24) rfl rfl t57 (by omega) (by omega) (by decide) ?_
  intro v5 e5 r5 k5
  replace k5 := ok_lfount k5 (by omega); clear r5
  refine z_callV (y2 := 163) (as := [_]) (rest := [_, _, _]) (pc2 := 27) rfl rfl rfl rfl t56 rfl ?_
  refine z_inl ?_
  refine z_lv (lv2 := [(0, _), (1, _)]) ⟨rfl, rfl, trivial⟩ ?_
  refine z_iconst (pc2 := 1) rfl rfl ?_
  refine z_aload_n (pc2 := 2) rfl rfl rfl ?_
  refine z_getI (pc2 := 5) 0 rfl rfl rfl rfl rfl t56 ?_
  intro v6 e6 r6 k6
  replace k6 : (0 : Int) ≤ v6 ∧ v6 ≤ 1 := k6; clear r6
  replace e6 : q = v6 := by rw [e6]; first | exact hq3 | exact Eq.symm hq3 | (simp [zU]; first | done | exact hq3 | exact Eq.symm hq3 | omega)
  subst e6
  refine z_imul (pc2 := 6) rfl rfl ?_
  refine z_iload_n (pc2 := 7) rfl rfl rfl ?_
  refine z_iadd (pc2 := 8) rfl rfl ?_
  refine z_iret rfl rfl ?_
  show zB _ _ _ _ _ _ [_, _, _, _] _ _
  refine z_iald (pc2 := 28) rfl rfl t74 (by omega) (by omega) (by decide) ?_
  intro v7 e7 r7 k7
  replace k7 : (0 : Int) ≤ v7 ∧ v7 ≤ 3 := k7; clear r7
  have hg1 := hht _ (by assumption)
  refine z_iadd (pc2 := 29) rfl rfl ?_
  refine z_putI (pc2 := 32) rfl rfl rfl rfl rfl rfl t56 (by omega) (by show (0 : Int) ≤ _ ∧ _ ≤ 20000; omega) ?_
  refine z_iconst (pc2 := 33) rfl rfl ?_
  refine z_istore_n (lv2 := [(3, _), (2, _), (0, _), (1, _)]) (pc2 := 34) rfl rfl rfl rfl ?_
  refine z_lv (lv2 := [(0, _), (2, _), (3, _)]) ⟨rfl, rfl, rfl, trivial⟩ ?_
  exact l_pageTakes1 hT (q := q) (l := l) (H := H) (by omega) (by omega) (by omega) (by omega) rfl hq3 hK _ _ _ _ _ (zU_same _ _ _ _) (by omega) (by omega) (by repeat (first | exact zPg_rf _ | assumption | refine zPg_a ?_ | refine zPg_f ?_ (by decide))) (by omega) (zNp_f hn) (Nat.lt_succ_self _)
