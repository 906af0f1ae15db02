/-! the reference: breaks are chosen -/
set_option maxHeartbeats 8000000 in
theorem m_badness {L : Nat} {xs : Nat → Int32} {n sl : Nat} {T : Nat → zT} {I : Nat → Nat → Int} {P : Nat → Nat → Option Nat} {G : Nat → Nat → Int} {K : List zV → zH → Prop} {f u z : Int} (hT : ∀ a, 56 ≤ a → a ≤ 90 → T a = zFix a) (hf : 0 ≤ f ∧ f ≤ 3) (hz : 0 ≤ z ∧ z ≤ 1) (hK : ∀ g, K [.inr (.inr g)] (n, sl, T, I, P, G)) : zX zMd L xs 232 [.inr (.inl (some 56)), .inl f, .inl u, .inl z] (n, sl, T, I, P, G) K := by
  have t56 : T 56 = (1, 12, [1]) := hT 56 (by decide) (by decide)
  have t72 : T 72 = (2, 0, [8, 0]) := hT 72 (by decide) (by decide)
  have t73 : T 73 = (2, 0, [8, 0]) := hT 73 (by decide) (by decide)
  refine z_inl ?_
  refine z_lv (lv2 := [(0, _), (1, _), (2, _), (3, _)]) ⟨rfl, rfl, rfl, rfl, trivial⟩ ?_
  refine z_aload_n (pc2 := 1) rfl rfl rfl ?_
  refine z_iload_n (pc2 := 2) rfl rfl rfl ?_
  refine z_iload_n (pc2 := 3) rfl rfl rfl ?_
  refine z_callV (y2 := 231) (as := [_, _]) (rest := []) (pc2 := 6) rfl rfl rfl rfl t56 rfl ?_
  refine z_inl ?_
  refine z_lv (lv2 := [(0, _), (1, _), (2, _)]) ⟨rfl, rfl, rfl, trivial⟩ ?_
  refine z_iload_n (pc2 := 1) rfl rfl rfl ?_
  refine z_aload_n (pc2 := 2) rfl rfl rfl ?_
  refine z_getP (pc2 := 5) rfl rfl rfl rfl t56 ?_
  intro p1 p1e p1k; replace p1k : p1 = some 73 := p1k; clear p1e; subst p1k
  refine z_aload_n (pc2 := 6) rfl rfl rfl ?_
  refine z_iload_n (pc2 := 7) rfl rfl rfl ?_
  refine z_callV (y2 := 163) (as := [_]) (rest := [_, _]) (pc2 := 10) rfl rfl rfl rfl t56 rfl ?_
  refine z_inl ?_
  refine z_lv (lv2 := [(0, _), (1, _)]) ⟨rfl, rfl, trivial⟩ ?_
  refine z_iconst (pc2 := 1) rfl rfl ?_
  refine z_aload_n (pc2 := 2) rfl rfl rfl ?_
  refine z_getI (pc2 := 5) 0 rfl rfl rfl rfl rfl t56 ?_
  intro v2 e2 r2 k2
  clear e2
  replace k2 : (0 : Int) ≤ v2 ∧ v2 ≤ 1 := k2; clear r2
  refine z_imul (pc2 := 6) rfl rfl ?_
  refine z_iload_n (pc2 := 7) rfl rfl rfl ?_
  refine z_iadd (pc2 := 8) rfl rfl ?_
  refine z_iret rfl rfl ?_
  show zB _ _ _ _ _ _ [_, _, _] _ _
  refine z_iald (pc2 := 11) rfl rfl t73 (by omega) (by omega) (by decide) ?_
  intro v3 e3 r3 k3
  clear e3
  clear k3
  refine z_ineg (pc2 := 12) rfl rfl ?_
  refine z_aload_n (pc2 := 13) rfl rfl rfl ?_
  refine z_getI (pc2 := 16) 0 rfl rfl rfl rfl rfl t56 ?_
  intro v4 e4 r4 k4
  clear e4
  replace k4 : (0 : Int) ≤ v4 ∧ v4 ≤ 42 := k4; clear r4
  refine z_imul (pc2 := 17) rfl rfl ?_
  refine z_icmp_any (t := 24) (pc2 := 20) rfl rfl rfl ?_ ?_
  ·
    refine z_iconst (pc2 := 25) rfl rfl ?_
    refine z_zret rfl rfl (by omega) ?_
    show zB _ _ _ _ _ _ [_] _ _
    refine z_if_ne (t := 16) (pc2 := 9) rfl rfl rfl (by omega) (fun c6 => by exfalso; omega) (fun c6 => ?_)
    refine z_ldc2 (10000000) (pc2 := 12) rfl rfl rfl ?_
    refine z_iload_n (pc2 := 13) rfl rfl rfl ?_
    refine z_i2l_any (pc2 := 14) rfl rfl (fun g7 => ?_)
    refine z_lsub (pc2 := 15) rfl rfl ?_
    refine z_lret rfl rfl ?_
    exact hK _
  ·
    refine z_iconst (pc2 := 21) rfl rfl ?_
    refine z_goto (pc2 := 25) rfl rfl ?_
    refine z_zret rfl rfl (by omega) ?_
    show zB _ _ _ _ _ _ [_] _ _
    refine z_if_ne (t := 16) (pc2 := 9) rfl rfl rfl (by omega) (fun c8 => ?_) (fun c8 => by exfalso; omega)
    refine z_iload_n (pc2 := 17) rfl rfl rfl ?_
    refine z_if_eq (t := 34) (pc2 := 20) rfl rfl rfl (by omega) (fun c9 => ?_) (fun c9 => ?_)
    ·
      refine z_iload_n (pc2 := 35) rfl rfl rfl ?_
      refine z_i2l_any (pc2 := 36) rfl rfl (fun g10 => ?_)
      refine z_iload_n (pc2 := 37) rfl rfl rfl ?_
      refine z_i2l_any (pc2 := 38) rfl rfl (fun g11 => ?_)
      refine z_lmul (pc2 := 39) rfl rfl ?_
      refine z_iload_n (pc2 := 40) rfl rfl rfl ?_
      refine z_aload_n (pc2 := 41) rfl rfl rfl ?_
      refine z_getP (pc2 := 44) rfl rfl rfl rfl t56 ?_
      intro p13 p13e p13k; replace p13k : p13 = some 72 := p13k; clear p13e; subst p13k
      refine z_aload_n (pc2 := 45) rfl rfl rfl ?_
      refine z_iload_n (pc2 := 46) rfl rfl rfl ?_
      refine z_callV (y2 := 163) (as := [_]) (rest := [_, _, _]) (pc2 := 49) rfl rfl rfl rfl t56 rfl ?_
      refine z_inl ?_
      refine z_lv (lv2 := [(0, _), (1, _)]) ⟨rfl, rfl, trivial⟩ ?_
      refine z_iconst (pc2 := 1) rfl rfl ?_
      refine z_aload_n (pc2 := 2) rfl rfl rfl ?_
      refine z_getI (pc2 := 5) 0 rfl rfl rfl rfl rfl t56 ?_
      intro v14 e14 r14 k14
      clear e14
      replace k14 : (0 : Int) ≤ v14 ∧ v14 ≤ 1 := k14; clear r14
      refine z_imul (pc2 := 6) rfl rfl ?_
      refine z_iload_n (pc2 := 7) rfl rfl rfl ?_
      refine z_iadd (pc2 := 8) rfl rfl ?_
      refine z_iret rfl rfl ?_
      show zB _ _ _ _ _ _ [_, _, _, _] _ _
      refine z_iald (pc2 := 50) rfl rfl t72 (by omega) (by omega) (by decide) ?_
      intro v15 e15 r15 k15
      clear e15
      clear k15
      refine z_aload_n (pc2 := 51) rfl rfl rfl ?_
      refine z_getI (pc2 := 54) 0 rfl rfl rfl rfl rfl t56 ?_
      intro v16 e16 r16 k16
      clear e16
      replace k16 : (0 : Int) ≤ v16 ∧ v16 ≤ 126 := k16; clear r16
      refine z_imul (pc2 := 55) rfl rfl ?_
      refine z_icmp_any (t := 64) (pc2 := 58) rfl rfl rfl ?_ ?_
      ·
        refine z_lconst 0 (pc2 := 65) rfl rfl rfl ?_
        refine z_ladd (pc2 := 66) rfl rfl ?_
        refine z_aload_n (pc2 := 67) rfl rfl rfl ?_
        refine z_getI (pc2 := 70) 2 rfl rfl rfl rfl rfl t56 ?_
        intro v18 e18 r18 k18
        clear e18
        replace k18 : (0 : Int) ≤ v18 ∧ v18 ≤ 1 := k18; clear r18
        refine z_if_eq (t := 79) (pc2 := 73) rfl rfl rfl (by omega) (fun c19 => ?_) (fun c19 => ?_)
        ·
          refine z_lconst 0 (pc2 := 80) rfl rfl rfl ?_
          refine z_ladd (pc2 := 81) rfl rfl ?_
          refine z_lret rfl rfl ?_
          exact hK _
        ·
          refine z_ldc2 (50) (pc2 := 76) rfl rfl rfl ?_
          refine z_goto (pc2 := 80) rfl rfl ?_
          refine z_ladd (pc2 := 81) rfl rfl ?_
          refine z_lret rfl rfl ?_
          exact hK _
      ·
        refine z_ldc2 (1000) (pc2 := 61) rfl rfl rfl ?_
        refine z_goto (pc2 := 65) rfl rfl ?_
        refine z_ladd (pc2 := 66) rfl rfl ?_
        refine z_aload_n (pc2 := 67) rfl rfl rfl ?_
        refine z_getI (pc2 := 70) 2 rfl rfl rfl rfl rfl t56 ?_
        intro v20 e20 r20 k20
        clear e20
        replace k20 : (0 : Int) ≤ v20 ∧ v20 ≤ 1 := k20; clear r20
        refine z_if_eq (t := 79) (pc2 := 73) rfl rfl rfl (by omega) (fun c21 => ?_) (fun c21 => ?_)
        ·
          refine z_lconst 0 (pc2 := 80) rfl rfl rfl ?_
          refine z_ladd (pc2 := 81) rfl rfl ?_
          refine z_lret rfl rfl ?_
          exact hK _
        ·
          refine z_ldc2 (50) (pc2 := 76) rfl rfl rfl ?_
          refine z_goto (pc2 := 80) rfl rfl ?_
          refine z_ladd (pc2 := 81) rfl rfl ?_
          refine z_lret rfl rfl ?_
          exact hK _
    ·
      refine z_iload_n (pc2 := 21) rfl rfl rfl ?_
      refine z_if_any (t := 32) (pc2 := 24) rfl rfl rfl ?_ ?_
      ·
        refine z_lconst 0 (pc2 := 33) rfl rfl rfl ?_
        refine z_lret rfl rfl ?_
        exact hK _
      ·
        refine z_iload_n (pc2 := 25) rfl rfl rfl ?_
        refine z_i2l_any (pc2 := 26) rfl rfl (fun g22 => ?_)
        refine z_iload_n (pc2 := 27) rfl rfl rfl ?_
        refine z_i2l_any (pc2 := 28) rfl rfl (fun g23 => ?_)
        refine z_lmul (pc2 := 29) rfl rfl ?_
        refine z_goto (pc2 := 33) rfl rfl ?_
        refine z_lret rfl rfl ?_
        exact hK _
set_option maxHeartbeats 8000000 in
theorem l_chooseLines3 {L : Nat} {xs : Nat → Int32} {n sl : Nat} {T : Nat → zT} {I : Nat → Nat → Int} {P : Nat → Nat → Option Nat} {K : List zV → zH → Prop} {f m2 N a : Int} (hT : ∀ a, 56 ≤ a → a ≤ 90 → T a = zFix a) (hf : 0 ≤ f ∧ f ≤ 3) (hN : 1 ≤ N ∧ N ≤ 40) (ha : 0 ≤ a ∧ a ≤ 39) (hrl : zRl I) (haN : a < N) (hE : ∀ (I2 G2 : Nat → Nat → Int), zCh2 N (a + -1) I I2 → zB zMd L xs 233 113 [(0, .inr (.inl (some 56))), (1, .inl f), (2, .inl m2), (3, .inl (a + -1))] [] (n, sl, T, I2, P, G2) K) (hK : True) (m : Nat) : ∀ (I2 : Nat → Nat → Int) (G2 : Nat → Nat → Int), ∀ (b : Int), 1 ≤ b ∧ b ≤ 41 → zCh3 N a b I I2 → a + 1 ≤ b ∧ b ≤ N + 1 → (41 - b).toNat < m → zB zMd L xs 233 130 [(0, .inr (.inl (some 56))), (1, .inl f), (2, .inl m2), (3, .inl a), (4, .inl b)] [] (n, sl, T, I2, P, G2) K := by
  have t56 : T 56 = (1, 12, [1]) := hT 56 (by decide) (by decide)
  have t84 : T 84 = (2, 0, [42, 10]) := hT 84 (by decide) (by decide)
  have t85 : T 85 = (2, 0, [42, 11]) := hT 85 (by decide) (by decide)
  have t86 : T 86 = (2, 1, [42, 0]) := hT 86 (by decide) (by decide)
  induction m with
  | zero => intro I2 G2 b hb hI2 hb3 hm; omega
  | succ m ih =>
    intro I2 G2 b hb hI2 hb3 hm
    refine z_iload (pc2 := 132) rfl rfl rfl ?_
    refine z_aload_n (pc2 := 133) rfl rfl rfl ?_
    refine z_getI (pc2 := 136) 0 rfl rfl rfl rfl rfl t56 ?_
    intro v1 e1 r1 k1
    replace k1 : (0 : Int) ≤ v1 ∧ v1 ≤ 41 := k1; clear r1
    replace e1 : N = v1 := by rw [e1]; first | exact hI2.1.2.1 | exact Eq.symm hI2.1.2.1 | (simp [zU]; first | done | exact hI2.1.2.1 | exact Eq.symm hI2.1.2.1 | omega)
    subst e1
    refine z_icmp_gt (t := 234) (pc2 := 139) rfl rfl rfl (by omega) (by omega) (fun c2 => ?_) (fun c2 => ?_)
    ·
      refine z_iinc (lv2 := [(3, _), (0, _), (1, _), (2, _), (4, _)]) (pc2 := 237) rfl rfl rfl rfl rfl ?_
      refine z_goto (pc2 := 113) rfl rfl ?_
      refine z_lv (lv2 := [(0, _), (1, _), (2, _), (3, _)]) ⟨rfl, rfl, rfl, rfl, trivial⟩ ?_
      exact hE _ _ (zCh3_out hI2 (by omega) (by omega))
    ·
      refine z_aload_n (pc2 := 140) rfl rfl rfl ?_
      refine z_aload_n (pc2 := 141) rfl rfl rfl ?_
      refine z_getP (pc2 := 144) rfl rfl rfl rfl t56 ?_
      intro p3 p3e p3k; replace p3k : p3 = some 84 := p3k; clear p3e; subst p3k
      refine z_iload_n (pc2 := 145) rfl rfl rfl ?_
      refine z_iald (pc2 := 146) rfl rfl t84 (by omega) (by omega) (by decide) ?_
      intro v4 e4 r4 k4
      clear e4
      replace k4 : (0 : Int) ≤ v4 ∧ v4 ≤ 40 := k4; clear r4
      refine z_aload_n (pc2 := 147) rfl rfl rfl ?_
      refine z_getP (pc2 := 150) rfl rfl rfl rfl t56 ?_
      intro p5 p5e p5k; replace p5k : p5 = some 84 := p5k; clear p5e; subst p5k
      refine z_iload (pc2 := 152) rfl rfl rfl ?_
      refine z_iald (pc2 := 153) rfl rfl t84 (by omega) (by omega) (by decide) ?_
      intro v6 e6 r6 k6
      clear e6
      replace k6 : (0 : Int) ≤ v6 ∧ v6 ≤ 40 := k6; clear r6
      refine z_callV (y2 := 230) (as := [_, _]) (rest := []) (pc2 := 156) rfl rfl rfl rfl t56 rfl ?_
      refine m_lineOf hT (by omega) (by omega) (hI2.1.1.1.2 hrl).1 (fun Iw7 Gw7 Lw7 Sw7 Hw7 lw7 nw7 aw7 bw7 cw7 dw7 fw7 qw7 => ?_)
      have xw7 := zCh3_l hI2 lw7
      have yw7 : Iw7 56 39 = N := xw7.1.2.1
      clear nw7 aw7 bw7 cw7 dw7 fw7 qw7
      show zB _ _ _ _ _ _ [] _ _
      refine z_aload_n (pc2 := 157) rfl rfl rfl ?_
      refine z_iload_n (pc2 := 158) rfl rfl rfl ?_
      refine z_iload_n (pc2 := 159) rfl rfl rfl ?_
      refine z_aload_n (pc2 := 160) rfl rfl rfl ?_
      refine z_getI (pc2 := 163) 0 rfl rfl rfl rfl rfl t56 ?_
      intro v8 e8 r8 k8
      clear e8
      clear k8
      refine z_isub (pc2 := 164) rfl rfl ?_
      refine z_iload (pc2 := 166) rfl rfl rfl ?_
      refine z_aload_n (pc2 := 167) rfl rfl rfl ?_
      refine z_getI (pc2 := 170) 0 rfl rfl rfl rfl rfl t56 ?_
      intro v9 e9 r9 k9
      replace k9 : (0 : Int) ≤ v9 ∧ v9 ≤ 41 := k9; clear r9
      replace e9 : N = v9 := by rw [e9]; first | exact yw7 | exact Eq.symm yw7 | (simp [zU]; first | done | exact yw7 | exact Eq.symm yw7 | omega)
      subst e9
      refine z_icmp_ne (t := 177) (pc2 := 173) rfl rfl rfl (by omega) (by omega) (fun c10 => ?_) (fun c10 => ?_)
      ·
        refine z_iconst (pc2 := 178) rfl rfl ?_
        refine z_callV (y2 := 232) (as := [_, _, _]) (rest := []) (pc2 := 181) rfl rfl rfl rfl t56 rfl ?_
        refine m_badness hT (by omega) (by omega) (fun g11 => ?_)
        show zB _ _ _ _ _ _ [_] _ _
        refine z_aload_n (pc2 := 182) rfl rfl rfl ?_
        refine z_getP (pc2 := 185) rfl rfl rfl rfl t56 ?_
        intro p12 p12e p12k; replace p12k : p12 = some 86 := p12k; clear p12e; subst p12k
        refine z_iload (pc2 := 187) rfl rfl rfl ?_
        refine z_lald (pc2 := 188) rfl rfl t86 (by omega) (by omega) (by decide) ?_
        intro g13 g13e; clear g13e
        refine z_ladd (pc2 := 189) rfl rfl ?_
        refine z_lstore (lv2 := [(5, _), (0, _), (1, _), (2, _), (3, _), (4, _)]) (pc2 := 191) rfl rfl rfl rfl ?_
        refine z_aload_n (pc2 := 192) rfl rfl rfl ?_
        refine z_getP (pc2 := 195) rfl rfl rfl rfl t56 ?_
        intro p14 p14e p14k; replace p14k : p14 = some 85 := p14k; clear p14e; subst p14k
        refine z_iload_n (pc2 := 196) rfl rfl rfl ?_
        refine z_iald (pc2 := 197) rfl rfl t85 (by omega) (by omega) (by decide) ?_
        intro v15 e15 r15 k15
        replace k15 : (-4 : Int) ≤ v15 ∧ v15 ≤ 41 := k15; clear r15
        refine z_if_lt (t := 212) (pc2 := 200) rfl rfl rfl (by omega) (fun c16 => ?_) (fun c16 => ?_)
        ·
          refine z_aload_n (pc2 := 213) rfl rfl rfl ?_
          refine z_getP (pc2 := 216) rfl rfl rfl rfl t56 ?_
          intro p17 p17e p17k; replace p17k : p17 = some 85 := p17k; clear p17e; subst p17k
          refine z_iload_n (pc2 := 217) rfl rfl rfl ?_
          refine z_iload (pc2 := 219) rfl rfl rfl ?_
          refine z_iast (pc2 := 220) rfl rfl t85 (by omega) (by omega) (by decide) (by omega) (by show (-4 : Int) ≤ _ ∧ _ ≤ 41; omega) ?_
          refine z_aload_n (pc2 := 221) rfl rfl rfl ?_
          refine z_getP (pc2 := 224) rfl rfl rfl rfl t56 ?_
          intro p18 p18e p18k; replace p18k : p18 = some 86 := p18k; clear p18e; subst p18k
          refine z_iload_n (pc2 := 225) rfl rfl rfl ?_
          refine z_lload (pc2 := 227) rfl rfl rfl ?_
          refine z_last (pc2 := 228) rfl rfl t86 (by omega) (by omega) (by decide) ?_
          refine z_iinc (lv2 := [(4, _), (5, _), (0, _), (1, _), (2, _), (3, _)]) (pc2 := 231) rfl rfl rfl rfl rfl ?_
          refine z_goto (pc2 := 130) rfl rfl ?_
          refine z_lv (lv2 := [(0, _), (1, _), (2, _), (3, _), (4, _)]) ⟨rfl, rfl, rfl, rfl, rfl, trivial⟩ ?_
          exact ih _ _ _ (by omega) (by first | exact zCh3_w (by assumption) (by omega) (by omega) (by omega) | exact zCh3_n (by assumption) (by assumption) (by omega) (by omega)) (by omega) (by omega)
        ·
          refine z_lload (pc2 := 202) rfl rfl rfl ?_
          refine z_aload_n (pc2 := 203) rfl rfl rfl ?_
          refine z_getP (pc2 := 206) rfl rfl rfl rfl t56 ?_
          intro p19 p19e p19k; replace p19k : p19 = some 86 := p19k; clear p19e; subst p19k
          refine z_iload_n (pc2 := 207) rfl rfl rfl ?_
          refine z_lald (pc2 := 208) rfl rfl t86 (by omega) (by omega) (by decide) ?_
          intro g20 g20e; clear g20e
          refine z_lcmp_any (pc2 := 209) rfl rfl (fun c21 c21a => ?_)
          refine z_if_ge (t := 228) (pc2 := 212) rfl rfl rfl (by omega) (fun c22 => ?_) (fun c22 => ?_)
          ·
            refine z_iinc (lv2 := [(4, _), (5, _), (0, _), (1, _), (2, _), (3, _)]) (pc2 := 231) rfl rfl rfl rfl rfl ?_
            refine z_goto (pc2 := 130) rfl rfl ?_
            refine z_lv (lv2 := [(0, _), (1, _), (2, _), (3, _), (4, _)]) ⟨rfl, rfl, rfl, rfl, rfl, trivial⟩ ?_
            exact ih _ _ _ (by omega) (by first | exact zCh3_w (by assumption) (by omega) (by omega) (by omega) | exact zCh3_n (by assumption) (by assumption) (by omega) (by omega)) (by omega) (by omega)
          ·
            refine z_aload_n (pc2 := 213) rfl rfl rfl ?_
            refine z_getP (pc2 := 216) rfl rfl rfl rfl t56 ?_
            intro p23 p23e p23k; replace p23k : p23 = some 85 := p23k; clear p23e; subst p23k
            refine z_iload_n (pc2 := 217) rfl rfl rfl ?_
            refine z_iload (pc2 := 219) rfl rfl rfl ?_
            refine z_iast (pc2 := 220) rfl rfl t85 (by omega) (by omega) (by decide) (by omega) (by show (-4 : Int) ≤ _ ∧ _ ≤ 41; omega) ?_
            refine z_aload_n (pc2 := 221) rfl rfl rfl ?_
            refine z_getP (pc2 := 224) rfl rfl rfl rfl t56 ?_
            intro p24 p24e p24k; replace p24k : p24 = some 86 := p24k; clear p24e; subst p24k
            refine z_iload_n (pc2 := 225) rfl rfl rfl ?_
            refine z_lload (pc2 := 227) rfl rfl rfl ?_
            refine z_last (pc2 := 228) rfl rfl t86 (by omega) (by omega) (by decide) ?_
            refine z_iinc (lv2 := [(4, _), (5, _), (0, _), (1, _), (2, _), (3, _)]) (pc2 := 231) rfl rfl rfl rfl rfl ?_
            refine z_goto (pc2 := 130) rfl rfl ?_
            refine z_lv (lv2 := [(0, _), (1, _), (2, _), (3, _), (4, _)]) ⟨rfl, rfl, rfl, rfl, rfl, trivial⟩ ?_
            exact ih _ _ _ (by omega) (by first | exact zCh3_w (by assumption) (by omega) (by omega) (by omega) | exact zCh3_n (by assumption) (by assumption) (by omega) (by omega)) (by omega) (by omega)
      ·
        refine z_iconst (pc2 := 174) rfl rfl ?_
        refine z_goto (pc2 := 178) rfl rfl ?_
        refine z_callV (y2 := 232) (as := [_, _, _]) (rest := []) (pc2 := 181) rfl rfl rfl rfl t56 rfl ?_
        refine m_badness hT (by omega) (by omega) (fun g25 => ?_)
        show zB _ _ _ _ _ _ [_] _ _
        refine z_aload_n (pc2 := 182) rfl rfl rfl ?_
        refine z_getP (pc2 := 185) rfl rfl rfl rfl t56 ?_
        intro p26 p26e p26k; replace p26k : p26 = some 86 := p26k; clear p26e; subst p26k
        refine z_iload (pc2 := 187) rfl rfl rfl ?_
        refine z_lald (pc2 := 188) rfl rfl t86 (by omega) (by omega) (by decide) ?_
        intro g27 g27e; clear g27e
        refine z_ladd (pc2 := 189) rfl rfl ?_
        refine z_lstore (lv2 := [(5, _), (0, _), (1, _), (2, _), (3, _), (4, _)]) (pc2 := 191) rfl rfl rfl rfl ?_
        refine z_aload_n (pc2 := 192) rfl rfl rfl ?_
        refine z_getP (pc2 := 195) rfl rfl rfl rfl t56 ?_
        intro p28 p28e p28k; replace p28k : p28 = some 85 := p28k; clear p28e; subst p28k
        refine z_iload_n (pc2 := 196) rfl rfl rfl ?_
        refine z_iald (pc2 := 197) rfl rfl t85 (by omega) (by omega) (by decide) ?_
        intro v29 e29 r29 k29
        replace k29 : (-4 : Int) ≤ v29 ∧ v29 ≤ 41 := k29; clear r29
        refine z_if_lt (t := 212) (pc2 := 200) rfl rfl rfl (by omega) (fun c30 => ?_) (fun c30 => ?_)
        ·
          refine z_aload_n (pc2 := 213) rfl rfl rfl ?_
          refine z_getP (pc2 := 216) rfl rfl rfl rfl t56 ?_
          intro p31 p31e p31k; replace p31k : p31 = some 85 := p31k; clear p31e; subst p31k
          refine z_iload_n (pc2 := 217) rfl rfl rfl ?_
          refine z_iload (pc2 := 219) rfl rfl rfl ?_
          refine z_iast (pc2 := 220) rfl rfl t85 (by omega) (by omega) (by decide) (by omega) (by show (-4 : Int) ≤ _ ∧ _ ≤ 41; omega) ?_
          refine z_aload_n (pc2 := 221) rfl rfl rfl ?_
          refine z_getP (pc2 := 224) rfl rfl rfl rfl t56 ?_
          intro p32 p32e p32k; replace p32k : p32 = some 86 := p32k; clear p32e; subst p32k
          refine z_iload_n (pc2 := 225) rfl rfl rfl ?_
          refine z_lload (pc2 := 227) rfl rfl rfl ?_
          refine z_last (pc2 := 228) rfl rfl t86 (by omega) (by omega) (by decide) ?_
          refine z_iinc (lv2 := [(4, _), (5, _), (0, _), (1, _), (2, _), (3, _)]) (pc2 := 231) rfl rfl rfl rfl rfl ?_
          refine z_goto (pc2 := 130) rfl rfl ?_
          refine z_lv (lv2 := [(0, _), (1, _), (2, _), (3, _), (4, _)]) ⟨rfl, rfl, rfl, rfl, rfl, trivial⟩ ?_
          exact ih _ _ _ (by omega) (by first | exact zCh3_w (by assumption) (by omega) (by omega) (by omega) | exact zCh3_n (by assumption) (by assumption) (by omega) (by omega)) (by omega) (by omega)
        ·
          refine z_lload (pc2 := 202) rfl rfl rfl ?_
          refine z_aload_n (pc2 := 203) rfl rfl rfl ?_
          refine z_getP (pc2 := 206) rfl rfl rfl rfl t56 ?_
          intro p33 p33e p33k; replace p33k : p33 = some 86 := p33k; clear p33e; subst p33k
          refine z_iload_n (pc2 := 207) rfl rfl rfl ?_
          refine z_lald (pc2 := 208) rfl rfl t86 (by omega) (by omega) (by decide) ?_
          intro g34 g34e; clear g34e
          refine z_lcmp_any (pc2 := 209) rfl rfl (fun c35 c35a => ?_)
          refine z_if_ge (t := 228) (pc2 := 212) rfl rfl rfl (by omega) (fun c36 => ?_) (fun c36 => ?_)
          ·
            refine z_iinc (lv2 := [(4, _), (5, _), (0, _), (1, _), (2, _), (3, _)]) (pc2 := 231) rfl rfl rfl rfl rfl ?_
            refine z_goto (pc2 := 130) rfl rfl ?_
            refine z_lv (lv2 := [(0, _), (1, _), (2, _), (3, _), (4, _)]) ⟨rfl, rfl, rfl, rfl, rfl, trivial⟩ ?_
            exact ih _ _ _ (by omega) (by first | exact zCh3_w (by assumption) (by omega) (by omega) (by omega) | exact zCh3_n (by assumption) (by assumption) (by omega) (by omega)) (by omega) (by omega)
          ·
            refine z_aload_n (pc2 := 213) rfl rfl rfl ?_
            refine z_getP (pc2 := 216) rfl rfl rfl rfl t56 ?_
            intro p37 p37e p37k; replace p37k : p37 = some 85 := p37k; clear p37e; subst p37k
            refine z_iload_n (pc2 := 217) rfl rfl rfl ?_
            refine z_iload (pc2 := 219) rfl rfl rfl ?_
            refine z_iast (pc2 := 220) rfl rfl t85 (by omega) (by omega) (by decide) (by omega) (by show (-4 : Int) ≤ _ ∧ _ ≤ 41; omega) ?_
            refine z_aload_n (pc2 := 221) rfl rfl rfl ?_
            refine z_getP (pc2 := 224) rfl rfl rfl rfl t56 ?_
            intro p38 p38e p38k; replace p38k : p38 = some 86 := p38k; clear p38e; subst p38k
            refine z_iload_n (pc2 := 225) rfl rfl rfl ?_
            refine z_lload (pc2 := 227) rfl rfl rfl ?_
            refine z_last (pc2 := 228) rfl rfl t86 (by omega) (by omega) (by decide) ?_
            refine z_iinc (lv2 := [(4, _), (5, _), (0, _), (1, _), (2, _), (3, _)]) (pc2 := 231) rfl rfl rfl rfl rfl ?_
            refine z_goto (pc2 := 130) rfl rfl ?_
            refine z_lv (lv2 := [(0, _), (1, _), (2, _), (3, _), (4, _)]) ⟨rfl, rfl, rfl, rfl, rfl, trivial⟩ ?_
            exact ih _ _ _ (by omega) (by first | exact zCh3_w (by assumption) (by omega) (by omega) (by omega) | exact zCh3_n (by assumption) (by assumption) (by omega) (by omega)) (by omega) (by omega)
set_option maxHeartbeats 8000000 in
theorem l_chooseLines2 {L : Nat} {xs : Nat → Int32} {n sl : Nat} {T : Nat → zT} {I : Nat → Nat → Int} {P : Nat → Nat → Option Nat} {K : List zV → zH → Prop} {f m2 N : Int} (hT : ∀ a, 56 ≤ a → a ≤ 90 → T a = zFix a) (hf : 0 ≤ f ∧ f ≤ 3) (hN : 1 ≤ N ∧ N ≤ 40) (hrl : zRl I) (hK : ∀ I2 G2 N, zCh2 N (-1) I I2 → (1 ≤ N ∧ N ≤ 40) → K [] (n, sl, T, I2, P, G2)) (m : Nat) : ∀ (I2 : Nat → Nat → Int) (G2 : Nat → Nat → Int), ∀ (a : Int), -1 ≤ a ∧ a ≤ 39 → zCh2 N a I I2 → a < N → (a + 1).toNat < m → zB zMd L xs 233 113 [(0, .inr (.inl (some 56))), (1, .inl f), (2, .inl m2), (3, .inl a)] [] (n, sl, T, I2, P, G2) K := by
  have t56 : T 56 = (1, 12, [1]) := hT 56 (by decide) (by decide)
  have t85 : T 85 = (2, 0, [42, 11]) := hT 85 (by decide) (by decide)
  induction m with
  | zero => intro I2 G2 a ha hI2 hb3 hm; omega
  | succ m ih =>
    intro I2 G2 a ha hI2 hb3 hm
    refine z_iload_n (pc2 := 114) rfl rfl rfl ?_
    refine z_if_lt (t := 240) (pc2 := 117) rfl rfl rfl (by omega) (fun c1 => ?_) (fun c1 => ?_)
    ·
      refine z_ret rfl rfl ?_
      exact hK _ _ N (by rw [show (-1 : Int) = a by omega]; exact hI2) (by omega)
    ·
      refine z_aload_n (pc2 := 118) rfl rfl rfl ?_
      refine z_getP (pc2 := 121) rfl rfl rfl rfl t56 ?_
      intro p2 p2e p2k; replace p2k : p2 = some 85 := p2k; clear p2e; subst p2k
      refine z_iload_n (pc2 := 122) rfl rfl rfl ?_
      refine z_bipush (pc2 := 124) rfl rfl (by decide) ?_
      refine z_iast (pc2 := 125) rfl rfl t85 (by omega) (by omega) (by decide) (by omega) (by show (-4 : Int) ≤ _ ∧ _ ≤ 41; omega) ?_
      refine z_iload_n (pc2 := 126) rfl rfl rfl ?_
      refine z_iconst (pc2 := 127) rfl rfl ?_
      refine z_iadd (pc2 := 128) rfl rfl ?_
      refine z_istore (lv2 := [(4, _), (0, _), (1, _), (2, _), (3, _)]) (pc2 := 130) rfl rfl rfl rfl ?_
      refine z_lv (lv2 := [(0, _), (1, _), (2, _), (3, _), (4, _)]) ⟨rfl, rfl, rfl, rfl, rfl, trivial⟩ ?_
      exact l_chooseLines3 hT (by omega) (by omega) (by omega) hrl (by omega) (fun I3 G3 h3 => ih I3 G3 _ (by omega) h3 (by omega) (by omega)) trivial _ _ _ _ (by omega) (zCh3_in hI2 (by omega)) (by omega) (Nat.lt_succ_self _)
set_option maxHeartbeats 8000000 in
theorem l_chooseLines {L : Nat} {xs : Nat → Int32} {n sl : Nat} {T : Nat → zT} {I : Nat → Nat → Int} {P : Nat → Nat → Option Nat} {K : List zV → zH → Prop} {f m2 W : Int} (hT : ∀ a, 56 ≤ a → a ≤ 90 → T a = zFix a) (hf : 0 ≤ f ∧ f ≤ 3) (hW : 0 ≤ W ∧ W ≤ 40) (hrl : zRl I) (hK : ∀ I2 G2 N, zCh2 N (-1) I I2 → (1 ≤ N ∧ N ≤ 40) → K [] (n, sl, T, I2, P, G2)) (m : Nat) : ∀ (I2 : Nat → Nat → Int) (G2 : Nat → Nat → Int), ∀ (t N : Int), I2 56 39 = N → 0 ≤ t ∧ t ≤ 39 → 0 ≤ N ∧ N ≤ 39 → zFr I I2 → I2 56 28 = W → N ≤ t → zQt I I2 → (40 - t).toNat < m → zB zMd L xs 233 14 [(0, .inr (.inl (some 56))), (1, .inl f), (2, .inl m2), (3, .inl t)] [] (n, sl, T, I2, P, G2) K := by
  have t56 : T 56 = (1, 12, [1]) := hT 56 (by decide) (by decide)
  have t80 : T 80 = (2, 0, [40, 0]) := hT 80 (by decide) (by decide)
  have t84 : T 84 = (2, 0, [42, 10]) := hT 84 (by decide) (by decide)
  have t86 : T 86 = (2, 1, [42, 0]) := hT 86 (by decide) (by decide)
  induction m with
  | zero => intro I2 G2 t N hN3 ht hN hI2 hW3 hb3 hqt hm; omega
  | succ m ih =>
    intro I2 G2 t N hN3 ht hN hI2 hW3 hb3 hqt hm
    refine z_iload_n (pc2 := 15) rfl rfl rfl ?_
    refine z_aload_n (pc2 := 16) rfl rfl rfl ?_
    refine z_getI (pc2 := 19) 0 rfl rfl rfl rfl rfl t56 ?_
    intro v1 e1 r1 k1
    replace k1 : (0 : Int) ≤ v1 ∧ v1 ≤ 40 := k1; clear r1
    replace e1 : W = v1 := by rw [e1]; first | exact hW3 | exact Eq.symm hW3 | (simp [zU]; first | done | exact hW3 | exact Eq.symm hW3 | omega)
    subst e1
    refine z_iconst (pc2 := 20) rfl rfl ?_
    refine z_isub (pc2 := 21) rfl rfl ?_
    refine z_icmp_ge (t := 73) (pc2 := 24) rfl rfl rfl (by omega) (by omega) (fun c2 => ?_) (fun c2 => ?_)
    ·
      refine z_aload_n (pc2 := 74) rfl rfl rfl ?_
      refine z_dup (pc2 := 75) rfl rfl rfl ?_
      refine z_getI (pc2 := 78) 0 rfl rfl rfl rfl rfl t56 ?_
      intro v3 e3 r3 k3
      replace k3 : (0 : Int) ≤ v3 ∧ v3 ≤ 41 := k3; clear r3
      replace e3 : N = v3 := by rw [e3]; first | exact hN3 | exact Eq.symm hN3 | (simp [zU]; first | done | exact hN3 | exact Eq.symm hN3 | omega)
      subst e3
      refine z_iconst (pc2 := 79) rfl rfl ?_
      refine z_iadd (pc2 := 80) rfl rfl ?_
      refine z_putI (pc2 := 83) rfl rfl rfl rfl rfl rfl t56 (by omega) (by show (0 : Int) ≤ _ ∧ _ ≤ 41; omega) ?_
      refine z_aload_n (pc2 := 84) rfl rfl rfl ?_
      refine z_getP (pc2 := 87) rfl rfl rfl rfl t56 ?_
      intro p4 p4e p4k; replace p4k : p4 = some 84 := p4k; clear p4e; subst p4k
      refine z_aload_n (pc2 := 88) rfl rfl rfl ?_
      refine z_getI (pc2 := 91) 0 rfl rfl rfl rfl rfl t56 ?_
      intro v5 e5 r5 k5
      replace k5 : (0 : Int) ≤ v5 ∧ v5 ≤ 41 := k5; clear r5
      replace e5 : (N + 1) = v5 := by rw [e5]; simp [zU]
      subst e5
      refine z_aload_n (pc2 := 92) rfl rfl rfl ?_
      refine z_getI (pc2 := 95) 0 rfl rfl rfl rfl rfl t56 ?_
      intro v6 e6 r6 k6
      replace k6 : (0 : Int) ≤ v6 ∧ v6 ≤ 40 := k6; clear r6
      replace e6 : W = v6 := by rw [e6]; first | exact hW3 | exact Eq.symm hW3 | (simp [zU]; first | done | exact hW3 | exact Eq.symm hW3 | omega)
      subst e6
      refine z_iast (pc2 := 96) rfl rfl t84 (by omega) (by omega) (by decide) (by omega) (by show (0 : Int) ≤ _ ∧ _ ≤ 40; omega) ?_
      refine z_aload_n (pc2 := 97) rfl rfl rfl ?_
      refine z_getP (pc2 := 100) rfl rfl rfl rfl t56 ?_
      intro p7 p7e p7k; replace p7k : p7 = some 86 := p7k; clear p7e; subst p7k
      refine z_aload_n (pc2 := 101) rfl rfl rfl ?_
      refine z_getI (pc2 := 104) 0 rfl rfl rfl rfl rfl t56 ?_
      intro v8 e8 r8 k8
      replace k8 : (0 : Int) ≤ v8 ∧ v8 ≤ 41 := k8; clear r8
      replace e8 : (N + 1) = v8 := by rw [e8]; simp [zU]
      subst e8
      refine z_lconst 0 (pc2 := 105) rfl rfl rfl ?_
      refine z_last (pc2 := 106) rfl rfl t86 (by omega) (by omega) (by decide) ?_
      refine z_aload_n (pc2 := 107) rfl rfl rfl ?_
      refine z_getI (pc2 := 110) 0 rfl rfl rfl rfl rfl t56 ?_
      intro v9 e9 r9 k9
      replace k9 : (0 : Int) ≤ v9 ∧ v9 ≤ 41 := k9; clear r9
      replace e9 : (N + 1) = v9 := by rw [e9]; simp [zU]
      subst e9
      refine z_iconst (pc2 := 111) rfl rfl ?_
      refine z_isub (pc2 := 112) rfl rfl ?_
      refine z_istore_n (lv2 := [(3, _), (0, _), (1, _), (2, _)]) (pc2 := 113) rfl rfl rfl rfl ?_
      refine z_lv (lv2 := [(0, _), (1, _), (2, _), (3, _)]) ⟨rfl, rfl, rfl, rfl, trivial⟩ ?_
      exact l_chooseLines2 hT (N := N + 1) (by omega) (by omega) hrl hK _ _ _ _ (by omega) ⟨⟨(by repeat (first | exact zFr_rf _ | assumption | refine zFr_a ?_ (by decide) | refine zFr_f ?_ (by decide) | refine zFr_n ?_ (by omega) | refine zFr_h ?_ (by omega) | refine zFr_tok ?_ (by omega))), (by repeat (first | exact zQt_rf _ | assumption | refine zQt_a ?_ (by decide) | refine zQt_f ?_ (by decide)))⟩, by simp [zU], fun j h1 h2 => by omega⟩ (by omega) (Nat.lt_succ_self _)
    ·
      refine z_aload_n (pc2 := 25) rfl rfl rfl ?_
      refine z_getP (pc2 := 28) rfl rfl rfl rfl t56 ?_
      intro p10 p10e p10k; replace p10k : p10 = some 80 := p10k; clear p10e; subst p10k
      refine z_iload_n (pc2 := 29) rfl rfl rfl ?_
      refine z_iald (pc2 := 30) rfl rfl t80 (by omega) (by omega) (by decide) ?_
      intro v11 e11 r11 k11
      clear e11
      clear k11
      refine z_iconst (pc2 := 31) rfl rfl ?_
      refine z_icmp_eq (t := 45) (pc2 := 34) rfl rfl rfl (by omega) (by omega) (fun c12 => ?_) (fun c12 => ?_)
      ·
        refine z_aload_n (pc2 := 46) rfl rfl rfl ?_
        refine z_dup (pc2 := 47) rfl rfl rfl ?_
        refine z_getI (pc2 := 50) 0 rfl rfl rfl rfl rfl t56 ?_
        intro v13 e13 r13 k13
        replace k13 : (0 : Int) ≤ v13 ∧ v13 ≤ 41 := k13; clear r13
        replace e13 : N = v13 := by rw [e13]; first | exact hN3 | exact Eq.symm hN3 | (simp [zU]; first | done | exact hN3 | exact Eq.symm hN3 | omega)
        subst e13
        refine z_iconst (pc2 := 51) rfl rfl ?_
        refine z_iadd (pc2 := 52) rfl rfl ?_
        refine z_putI (pc2 := 55) rfl rfl rfl rfl rfl rfl t56 (by omega) (by show (0 : Int) ≤ _ ∧ _ ≤ 41; omega) ?_
        refine z_aload_n (pc2 := 56) rfl rfl rfl ?_
        refine z_getP (pc2 := 59) rfl rfl rfl rfl t56 ?_
        intro p14 p14e p14k; replace p14k : p14 = some 84 := p14k; clear p14e; subst p14k
        refine z_aload_n (pc2 := 60) rfl rfl rfl ?_
        refine z_getI (pc2 := 63) 0 rfl rfl rfl rfl rfl t56 ?_
        intro v15 e15 r15 k15
        replace k15 : (0 : Int) ≤ v15 ∧ v15 ≤ 41 := k15; clear r15
        replace e15 : (N + 1) = v15 := by rw [e15]; simp [zU]
        subst e15
        refine z_iload_n (pc2 := 64) rfl rfl rfl ?_
        refine z_iconst (pc2 := 65) rfl rfl ?_
        refine z_iadd (pc2 := 66) rfl rfl ?_
        refine z_iast (pc2 := 67) rfl rfl t84 (by omega) (by omega) (by decide) (by omega) (by show (0 : Int) ≤ _ ∧ _ ≤ 40; omega) ?_
        refine z_iinc (lv2 := [(3, _), (0, _), (1, _), (2, _)]) (pc2 := 70) rfl rfl rfl rfl rfl ?_
        refine z_goto (pc2 := 14) rfl rfl ?_
        refine z_lv (lv2 := [(0, _), (1, _), (2, _), (3, _)]) ⟨rfl, rfl, rfl, rfl, trivial⟩ ?_
        exact ih _ _ _ _ (by first | assumption | exact (congrFun (zU_row _ _ _ (by decide)) _).trans (zU_same _ _ _ _)) (by omega) (by omega) (by repeat (first | exact zFr_rf _ | assumption | refine zFr_a ?_ (by decide) | refine zFr_f ?_ (by decide) | refine zFr_n ?_ (by omega) | refine zFr_h ?_ (by omega) | refine zFr_tok ?_ (by omega))) (by first | assumption | (simp [zU] <;> first | done | assumption)) (by omega) (by repeat (first | exact zQt_rf _ | assumption | refine zQt_a ?_ (by decide) | refine zQt_f ?_ (by decide))) (by omega)
      ·
        refine z_aload_n (pc2 := 35) rfl rfl rfl ?_
        refine z_getP (pc2 := 38) rfl rfl rfl rfl t56 ?_
        intro p16 p16e p16k; replace p16k : p16 = some 80 := p16k; clear p16e; subst p16k
        refine z_iload_n (pc2 := 39) rfl rfl rfl ?_
        refine z_iald (pc2 := 40) rfl rfl t80 (by omega) (by omega) (by decide) ?_
        intro v17 e17 r17 k17
        clear e17
        clear k17
        refine z_bipush (pc2 := 42) rfl rfl (by decide) ?_
        refine z_icmp_ne (t := 67) (pc2 := 45) rfl rfl rfl (by omega) (by omega) (fun c18 => ?_) (fun c18 => ?_)
        ·
          refine z_iinc (lv2 := [(3, _), (0, _), (1, _), (2, _)]) (pc2 := 70) rfl rfl rfl rfl rfl ?_
          refine z_goto (pc2 := 14) rfl rfl ?_
          refine z_lv (lv2 := [(0, _), (1, _), (2, _), (3, _)]) ⟨rfl, rfl, rfl, rfl, trivial⟩ ?_
          exact ih _ _ _ _ (by first | assumption | exact (congrFun (zU_row _ _ _ (by decide)) _).trans (zU_same _ _ _ _)) (by omega) (by omega) (by repeat (first | exact zFr_rf _ | assumption | refine zFr_a ?_ (by decide) | refine zFr_f ?_ (by decide) | refine zFr_n ?_ (by omega) | refine zFr_h ?_ (by omega) | refine zFr_tok ?_ (by omega))) (by first | assumption | (simp [zU] <;> first | done | assumption)) (by omega) (by repeat (first | exact zQt_rf _ | assumption | refine zQt_a ?_ (by decide) | refine zQt_f ?_ (by decide))) (by omega)
        ·
          refine z_aload_n (pc2 := 46) rfl rfl rfl ?_
          refine z_dup (pc2 := 47) rfl rfl rfl ?_
          refine z_getI (pc2 := 50) 0 rfl rfl rfl rfl rfl t56 ?_
          intro v19 e19 r19 k19
          replace k19 : (0 : Int) ≤ v19 ∧ v19 ≤ 41 := k19; clear r19
          replace e19 : N = v19 := by rw [e19]; first | exact hN3 | exact Eq.symm hN3 | (simp [zU]; first | done | exact hN3 | exact Eq.symm hN3 | omega)
          subst e19
          refine z_iconst (pc2 := 51) rfl rfl ?_
          refine z_iadd (pc2 := 52) rfl rfl ?_
          refine z_putI (pc2 := 55) rfl rfl rfl rfl rfl rfl t56 (by omega) (by show (0 : Int) ≤ _ ∧ _ ≤ 41; omega) ?_
          refine z_aload_n (pc2 := 56) rfl rfl rfl ?_
          refine z_getP (pc2 := 59) rfl rfl rfl rfl t56 ?_
          intro p20 p20e p20k; replace p20k : p20 = some 84 := p20k; clear p20e; subst p20k
          refine z_aload_n (pc2 := 60) rfl rfl rfl ?_
          refine z_getI (pc2 := 63) 0 rfl rfl rfl rfl rfl t56 ?_
          intro v21 e21 r21 k21
          replace k21 : (0 : Int) ≤ v21 ∧ v21 ≤ 41 := k21; clear r21
          replace e21 : (N + 1) = v21 := by rw [e21]; simp [zU]
          subst e21
          refine z_iload_n (pc2 := 64) rfl rfl rfl ?_
          refine z_iconst (pc2 := 65) rfl rfl ?_
          refine z_iadd (pc2 := 66) rfl rfl ?_
          refine z_iast (pc2 := 67) rfl rfl t84 (by omega) (by omega) (by decide) (by omega) (by show (0 : Int) ≤ _ ∧ _ ≤ 40; omega) ?_
          refine z_iinc (lv2 := [(3, _), (0, _), (1, _), (2, _)]) (pc2 := 70) rfl rfl rfl rfl rfl ?_
          refine z_goto (pc2 := 14) rfl rfl ?_
          refine z_lv (lv2 := [(0, _), (1, _), (2, _), (3, _)]) ⟨rfl, rfl, rfl, rfl, trivial⟩ ?_
          exact ih _ _ _ _ (by first | assumption | exact (congrFun (zU_row _ _ _ (by decide)) _).trans (zU_same _ _ _ _)) (by omega) (by omega) (by repeat (first | exact zFr_rf _ | assumption | refine zFr_a ?_ (by decide) | refine zFr_f ?_ (by decide) | refine zFr_n ?_ (by omega) | refine zFr_h ?_ (by omega) | refine zFr_tok ?_ (by omega))) (by first | assumption | (simp [zU] <;> first | done | assumption)) (by omega) (by repeat (first | exact zQt_rf _ | assumption | refine zQt_a ?_ (by decide) | refine zQt_f ?_ (by decide))) (by omega)
set_option maxHeartbeats 8000000 in
theorem m_chooseLines {L : Nat} {xs : Nat → Int32} {n sl : Nat} {T : Nat → zT} {I : Nat → Nat → Int} {P : Nat → Nat → Option Nat} {G : Nat → Nat → Int} {K : List zV → zH → Prop} {f m2 : Int} (hT : ∀ a, 56 ≤ a → a ≤ 90 → T a = zFix a) (hf : 0 ≤ f ∧ f ≤ 3) (hrl : zRl I) (hK : ∀ I2 G2 N, zCh2 N (-1) I I2 → (1 ≤ N ∧ N ≤ 40) → K [] (n, sl, T, I2, P, G2)) : zX zMd L xs 233 [.inr (.inl (some 56)), .inl f, .inl m2] (n, sl, T, I, P, G) K := by
  have t56 : T 56 = (1, 12, [1]) := hT 56 (by decide) (by decide)
  have t84 : T 84 = (2, 0, [42, 10]) := hT 84 (by decide) (by decide)
  refine zX_wf (fun hw => ?_)
  have hb28 : 0 ≤ I 56 28 ∧ I 56 28 ≤ 40 := by have h1 := hw.2.1 56 28; rw [show (n, sl, T, I, P, G).2.2.1 56 = T 56 from rfl, hT 56 (by decide) (by decide)] at h1; exact h1
  refine z_inl ?_
  refine z_lv (lv2 := [(0, _), (1, _), (2, _)]) ⟨rfl, rfl, rfl, trivial⟩ ?_
  refine z_aload_n (pc2 := 1) rfl rfl rfl ?_
  refine z_iconst (pc2 := 2) rfl rfl ?_
  refine z_putI (pc2 := 5) rfl rfl rfl rfl rfl rfl t56 (by omega) (by show (0 : Int) ≤ _ ∧ _ ≤ 41; omega) ?_
  refine z_aload_n (pc2 := 6) rfl rfl rfl ?_
  refine z_getP (pc2 := 9) rfl rfl rfl rfl t56 ?_
  intro p1 p1e p1k; replace p1k : p1 = some 84 := p1k; clear p1e; subst p1k
  refine z_iconst (pc2 := 10) rfl rfl ?_
  refine z_iconst (pc2 := 11) rfl rfl ?_
  refine z_iast (pc2 := 12) rfl rfl t84 (by omega) (by omega) (by decide) (by omega) (by show (0 : Int) ≤ _ ∧ _ ≤ 40; omega) ?_
  refine z_iconst (pc2 := 13) rfl rfl ?_
  refine z_istore_n (lv2 := [(3, _), (0, _), (1, _), (2, _)]) (pc2 := 14) rfl rfl rfl rfl ?_
  refine z_lv (lv2 := [(0, _), (1, _), (2, _), (3, _)]) ⟨rfl, rfl, rfl, rfl, trivial⟩ ?_
  exact l_chooseLines hT (W := I 56 28) (by omega) hb28 hrl hK _ _ _ _ 0 (by simp [zU]) (by omega) (by omega) (by repeat (first | exact zFr_rf _ | assumption | refine zFr_a ?_ (by decide) | refine zFr_f ?_ (by decide) | refine zFr_n ?_ (by omega) | refine zFr_h ?_ (by omega) | refine zFr_tok ?_ (by omega))) (by simp [zU]) (by omega) (by repeat (first | exact zQt_rf _ | assumption | refine zQt_a ?_ (by decide) | refine zQt_f ?_ (by decide))) (Nat.lt_succ_self _)
