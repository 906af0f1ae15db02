/-! the reference: making up -/
set_option maxHeartbeats 8000000 in
theorem l_makeup3 {L : Nat} {xs : Nat → Int32} {n sl : Nat} {T : Nat → zT} {I : Nat → Nat → Int} {P : Nat → Nat → Option Nat} {K : List zV → zH → Prop} {x w q p a b s : Int} (hT : ∀ a, 56 ≤ a → a ≤ 90 → T a = zFix a) (hx : 1 ≤ x ∧ x ≤ 60) (hw : 1 ≤ w ∧ w ≤ 89) (hq : 0 ≤ q ∧ q ≤ 1) (hp : 0 ≤ p ∧ p ≤ 88) (ha : 0 ≤ a ∧ a ≤ 88) (hb : 0 ≤ b ∧ b ≤ 112200) (hs : 1 ≤ s ∧ s ≤ 60) (hbt : b = 56100 * q + 170 + 17 * p) (hq3 : I 56 3 = q) (hs3 : I 89 a.toNat = s) (hE : ∀ (I2 G2 : Nat → Nat → Int), zMk q I I2 → zPs q (p + 1) (a + s) I2 → zB zMd L xs 252 73 [(0, .inr (.inl (some 56))), (1, .inl x), (2, .inl w), (3, .inl (p + 1)), (4, .inl (a + s))] [] (n, sl, T, I2, P, G2) K) (hK : True) (m : Nat) : ∀ (I2 : Nat → Nat → Int) (G2 : Nat → Nat → Int), ∀ (k : Int), 0 ≤ k ∧ k ≤ 12 → zMk q I I2 → zPs q (p + 1) (a + s) I2 → (12 - k).toNat < m → zB zMd L xs 252 244 [(0, .inr (.inl (some 56))), (1, .inl x), (2, .inl w), (3, .inl p), (4, .inl a), (5, .inl b), (6, .inl k)] [] (n, sl, T, I2, P, G2) K := by
  have t56 : T 56 = (1, 12, [1]) := hT 56 (by decide) (by decide)
  have t57 : T 57 = (2, 0, [112200, 1]) := hT 57 (by decide) (by decide)
  have t88 : T 88 = (2, 0, [12, 9]) := hT 88 (by decide) (by decide)
  have t89 : T 89 = (2, 0, [100, 14]) := hT 89 (by decide) (by decide)
  induction m with
  | zero => intro I2 G2 k hk hI2 hps hm; omega
  | succ m ih =>
    intro I2 G2 k hk hI2 hps hm
    refine z_iload (pc2 := 246) rfl rfl rfl ?_
    refine z_aload_n (pc2 := 247) rfl rfl rfl ?_
    refine z_getI (pc2 := 250) 0 rfl rfl rfl rfl rfl t56 ?_
    intro v1 e1 r1 k1
    clear e1
    replace k1 : (0 : Int) ≤ v1 ∧ v1 ≤ 12 := k1; clear r1
    refine z_icmp_ge (t := 278) (pc2 := 253) rfl rfl rfl (by omega) (by omega) (fun c2 => ?_) (fun c2 => ?_)
    ·
      refine z_iinc (lv2 := [(3, _), (0, _), (1, _), (2, _), (4, _), (5, _), (6, _)]) (pc2 := 281) rfl rfl rfl rfl rfl ?_
      refine z_iload (pc2 := 283) rfl rfl rfl ?_
      refine z_aload_n (pc2 := 284) rfl rfl rfl ?_
      refine z_getP (pc2 := 287) rfl rfl rfl rfl t56 ?_
      intro p3 p3e p3k; replace p3k : p3 = some 89 := p3k; clear p3e; subst p3k
      refine z_iload (pc2 := 289) rfl rfl rfl ?_
      refine z_iald (pc2 := 290) rfl rfl t89 (by omega) (by omega) (by decide) ?_
      intro v4 e4 r4 k4
      replace k4 : (0 : Int) ≤ v4 ∧ v4 ≤ 100 := k4; clear r4
      replace e4 : s = v4 := by rw [e4]; first | exact (zMk_89 hI2 hs3) | exact Eq.symm (zMk_89 hI2 hs3) | (simp [zU]; first | done | exact (zMk_89 hI2 hs3) | exact Eq.symm (zMk_89 hI2 hs3) | omega)
      subst e4
      refine z_iadd (pc2 := 291) rfl rfl ?_
      refine z_istore (lv2 := [(4, _), (3, _), (0, _), (1, _), (2, _), (5, _), (6, _)]) (pc2 := 293) rfl rfl rfl rfl ?_
      refine z_goto (pc2 := 73) rfl rfl ?_
      refine z_lv (lv2 := [(0, _), (1, _), (2, _), (3, _), (4, _)]) ⟨rfl, rfl, rfl, rfl, rfl, trivial⟩ ?_
      exact hE _ _ hI2 hps
    ·
      refine z_aload_n (pc2 := 254) rfl rfl rfl ?_
      refine z_getP (pc2 := 257) rfl rfl rfl rfl t56 ?_
      intro p5 p5e p5k; replace p5k : p5 = some 57 := p5k; clear p5e; subst p5k
      refine z_iload (pc2 := 259) rfl rfl rfl ?_
      refine z_iconst (pc2 := 260) rfl rfl ?_
      refine z_iadd (pc2 := 261) rfl rfl ?_
      refine z_iload (pc2 := 263) rfl rfl rfl ?_
      refine z_iadd (pc2 := 264) rfl rfl ?_
      refine z_aload_n (pc2 := 265) rfl rfl rfl ?_
      refine z_getP (pc2 := 268) rfl rfl rfl rfl t56 ?_
      intro p6 p6e p6k; replace p6k : p6 = some 88 := p6k; clear p6e; subst p6k
      refine z_iload (pc2 := 270) rfl rfl rfl ?_
      refine z_iald (pc2 := 271) rfl rfl t88 (by omega) (by omega) (by decide) ?_
      intro v7 e7 r7 k7
      clear e7
      replace k7 : (0 : Int) ≤ v7 ∧ v7 ≤ 11 := k7; clear r7
      refine z_iast (pc2 := 272) rfl rfl t57 (by omega) (by omega) (by decide) (by omega) (st_pany (by omega)) ?_
      refine z_iinc (lv2 := [(6, _), (0, _), (1, _), (2, _), (3, _), (4, _), (5, _)]) (pc2 := 275) rfl rfl rfl rfl rfl ?_
      refine z_goto (pc2 := 244) rfl rfl ?_
      refine z_lv (lv2 := [(0, _), (1, _), (2, _), (3, _), (4, _), (5, _), (6, _)]) ⟨rfl, rfl, rfl, rfl, rfl, rfl, rfl, trivial⟩ ?_
      exact ih _ _ _ (by omega) (by repeat (first | exact zMk_rf _ _ | assumption | refine zMk_n ?_ (by omega) | refine zMk_f ?_ (by decide))) (zPs_u hps (by omega) (by omega)) (by omega)
set_option maxHeartbeats 8000000 in
theorem l_makeup2 {L : Nat} {xs : Nat → Int32} {n sl : Nat} {T : Nat → zT} {I : Nat → Nat → Int} {P : Nat → Nat → Option Nat} {K : List zV → zH → Prop} {x w q p a b s : Int} (hT : ∀ a, 56 ≤ a → a ≤ 90 → T a = zFix a) (hx : 1 ≤ x ∧ x ≤ 60) (hw : 1 ≤ w ∧ w ≤ 89) (hq : 0 ≤ q ∧ q ≤ 1) (hp : 0 ≤ p ∧ p ≤ 88) (ha : 0 ≤ a ∧ a ≤ 88) (hb : 0 ≤ b ∧ b ≤ 112200) (hs : 1 ≤ s ∧ s ≤ 60) (hbt : b = 56100 * q + 170 + 17 * p) (hq3 : I 56 3 = q) (hs3 : I 89 a.toNat = s) (haw : a + s ≤ w) (hht : zHt q w I) (hE : ∀ (I2 G2 : Nat → Nat → Int), zMk q I I2 → zPs q (p + 1) (a + s) I2 → zB zMd L xs 252 73 [(0, .inr (.inl (some 56))), (1, .inl x), (2, .inl w), (3, .inl (p + 1)), (4, .inl (a + s))] [] (n, sl, T, I2, P, G2) K) (hK : True) (m : Nat) : ∀ (I2 : Nat → Nat → Int) (G2 : Nat → Nat → Int), ∀ (k H2 : Int), I2 56 44 = H2 → 0 ≤ k ∧ k ≤ 60 → 0 ≤ H2 ∧ H2 ≤ 10000 → zMk q I I2 → k ≤ s ∧ H2 ≤ 111 * k → zNp I2 → zPs q p a I2 → (60 - k).toNat < m → zB zMd L xs 252 101 [(0, .inr (.inl (some 56))), (1, .inl x), (2, .inl w), (3, .inl p), (4, .inl a), (5, .inl b), (6, .inl k)] [] (n, sl, T, I2, P, G2) K := by
  have t56 : T 56 = (1, 12, [1]) := hT 56 (by decide) (by decide)
  have t57 : T 57 = (2, 0, [112200, 1]) := hT 57 (by decide) (by decide)
  have t89 : T 89 = (2, 0, [100, 14]) := hT 89 (by decide) (by decide)
  induction m with
  | zero => intro I2 G2 k H2 hH3 hk hH2 hI2 hb3 hn3 hps hm; omega
  | succ m ih =>
    intro I2 G2 k H2 hH3 hk hH2 hI2 hb3 hn3 hps hm
    refine z_iload (pc2 := 103) rfl rfl rfl ?_
    refine z_aload_n (pc2 := 104) rfl rfl rfl ?_
    refine z_getP (pc2 := 107) rfl rfl rfl rfl t56 ?_
    intro p1 p1e p1k; replace p1k : p1 = some 89 := p1k; clear p1e; subst p1k
    refine z_iload (pc2 := 109) rfl rfl rfl ?_
    refine z_iald (pc2 := 110) rfl rfl t89 (by omega) (by omega) (by decide) ?_
    intro v2 e2 r2 k2
    replace k2 : (0 : Int) ≤ v2 ∧ v2 ≤ 100 := k2; clear r2
    replace e2 : s = v2 := by rw [e2]; first | exact (zMk_89 hI2 hs3) | exact Eq.symm (zMk_89 hI2 hs3) | (simp [zU]; first | done | exact (zMk_89 hI2 hs3) | exact Eq.symm (zMk_89 hI2 hs3) | omega)
    subst e2
    refine z_icmp_ge (t := 128) (pc2 := 113) rfl rfl rfl (by omega) (by omega) (fun c3 => ?_) (fun c3 => ?_)
    ·
      refine z_aload_n (pc2 := 129) rfl rfl rfl ?_
      refine z_getP (pc2 := 132) rfl rfl rfl rfl t56 ?_
      intro p4 p4e p4k; replace p4k : p4 = some 57 := p4k; clear p4e; subst p4k
      refine z_iload (pc2 := 134) rfl rfl rfl ?_
      refine z_iload (pc2 := 136) rfl rfl rfl ?_
      refine z_iast (pc2 := 137) rfl rfl t57 (by omega) (by omega) (by decide) (by omega) (st_pany (by omega)) ?_
      refine z_aload_n (pc2 := 138) rfl rfl rfl ?_
      refine z_getP (pc2 := 141) rfl rfl rfl rfl t56 ?_
      intro p5 p5e p5k; replace p5k : p5 = some 57 := p5k; clear p5e; subst p5k
      refine z_iload (pc2 := 143) rfl rfl rfl ?_
      refine z_iconst (pc2 := 144) rfl rfl ?_
      refine z_iadd (pc2 := 145) rfl rfl ?_
      refine z_aload_n (pc2 := 146) rfl rfl rfl ?_
      refine z_getP (pc2 := 149) rfl rfl rfl rfl t56 ?_
      intro p6 p6e p6k; replace p6k : p6 = some 89 := p6k; clear p6e; subst p6k
      refine z_iload (pc2 := 151) rfl rfl rfl ?_
      refine z_iald (pc2 := 152) rfl rfl t89 (by omega) (by omega) (by decide) ?_
      intro v7 e7 r7 k7
      replace k7 : (0 : Int) ≤ v7 ∧ v7 ≤ 100 := k7; clear r7
      replace e7 : s = v7 := by rw [e7]; first | exact (zMk_89 hI2 hs3) | exact Eq.symm (zMk_89 hI2 hs3) | (simp [zU]; first | done | exact (zMk_89 hI2 hs3) | exact Eq.symm (zMk_89 hI2 hs3) | omega)
      subst e7
      refine z_iast (pc2 := 153) rfl rfl t57 (by omega) (by omega) (by decide) (by omega) (st_pm (by omega) (by omega)) ?_
      refine z_aload_n (pc2 := 154) rfl rfl rfl ?_
      refine z_getP (pc2 := 157) rfl rfl rfl rfl t56 ?_
      intro p8 p8e p8k; replace p8k : p8 = some 57 := p8k; clear p8e; subst p8k
      refine z_iload (pc2 := 159) rfl rfl rfl ?_
      refine z_iconst (pc2 := 160) rfl rfl ?_
      refine z_iadd (pc2 := 161) rfl rfl ?_
      refine z_aload_n (pc2 := 162) rfl rfl rfl ?_
      refine z_getI (pc2 := 165) 0 rfl rfl rfl rfl rfl t56 ?_
      intro v9 e9 r9 k9
      replace k9 : (0 : Int) ≤ v9 ∧ v9 ≤ 20000 := k9; clear r9
      refine z_iast (pc2 := 166) rfl rfl t57 (by omega) (by omega) (by decide) (by omega) (st_pany (by omega)) ?_
      refine z_aload_n (pc2 := 167) rfl rfl rfl ?_
      refine z_getP (pc2 := 170) rfl rfl rfl rfl t56 ?_
      intro p10 p10e p10k; replace p10k : p10 = some 57 := p10k; clear p10e; subst p10k
      refine z_iload (pc2 := 172) rfl rfl rfl ?_
      refine z_iconst (pc2 := 173) rfl rfl ?_
      refine z_iadd (pc2 := 174) rfl rfl ?_
      refine z_aload_n (pc2 := 175) rfl rfl rfl ?_
      refine z_iload (pc2 := 177) rfl rfl rfl ?_
      refine z_callV (y2 := 248) (as := [_]) (rest := [_, _]) (pc2 := 180) rfl rfl rfl rfl t56 rfl ?_
      refine m_isWidow hT (by omega) (fun w11 w11r => ?_)
      show zB _ _ _ _ _ _ [_, _, _] _ _
      refine z_if_eq (t := 187) (pc2 := 183) rfl rfl rfl (by omega) (fun c12 => ?_) (fun c12 => ?_)
      ·
        refine z_iconst (pc2 := 188) rfl rfl ?_
        refine z_aload_n (pc2 := 189) rfl rfl rfl ?_
        refine z_iload (pc2 := 191) rfl rfl rfl ?_
        refine z_aload_n (pc2 := 192) rfl rfl rfl ?_
        refine z_getP (pc2 := 195) rfl rfl rfl rfl t56 ?_
        intro p13 p13e p13k; replace p13k : p13 = some 89 := p13k; clear p13e; subst p13k
        refine z_iload (pc2 := 197) rfl rfl rfl ?_
        refine z_iald (pc2 := 198) rfl rfl t89 (by omega) (by omega) (by decide) ?_
        intro v14 e14 r14 k14
        replace k14 : (0 : Int) ≤ v14 ∧ v14 ≤ 100 := k14; clear r14
        replace e14 : s = v14 := by rw [e14]; first | exact (zMk_89 hI2 hs3) | exact Eq.symm (zMk_89 hI2 hs3) | (simp [zU]; first | done | exact (zMk_89 hI2 hs3) | exact Eq.symm (zMk_89 hI2 hs3) | omega)
        subst e14
        refine z_iadd (pc2 := 199) rfl rfl ?_
        refine z_iconst (pc2 := 200) rfl rfl ?_
        refine z_isub (pc2 := 201) rfl rfl ?_
        refine z_callV (y2 := 249) (as := [_]) (rest := [_, _, _]) (pc2 := 204) rfl rfl rfl rfl t56 rfl ?_
        refine m_isOrphan hT (by omega) (fun w15 w15r => ?_)
        show zB _ _ _ _ _ _ [_, _, _, _] _ _
        refine z_if_eq (t := 211) (pc2 := 207) rfl rfl rfl (by omega) (fun c16 => ?_) (fun c16 => ?_)
        ·
          refine z_iconst (pc2 := 212) rfl rfl ?_
          refine z_iadd (pc2 := 213) rfl rfl ?_
          refine z_aload_n (pc2 := 214) rfl rfl rfl ?_
          refine z_getI (pc2 := 217) 0 rfl rfl rfl rfl rfl t56 ?_
          intro v17 e17 r17 k17
          replace k17 : (0 : Int) ≤ v17 ∧ v17 ≤ 20000 := k17; clear r17
          replace e17 : v9 = v17 := by rw [e17]; first | exact e9 | exact Eq.symm e9 | (simp [zU]; first | done | exact e9 | exact Eq.symm e9 | omega)
          subst e17
          refine z_iload_n (pc2 := 218) rfl rfl rfl ?_
          refine z_icmp_le (t := 225) (pc2 := 221) rfl rfl rfl (by omega) (by omega) (fun c18 => ?_) (fun c18 => ?_)
          ·
            refine z_iconst (pc2 := 226) rfl rfl ?_
            refine z_iadd (pc2 := 227) rfl rfl ?_
            refine z_iast (pc2 := 228) rfl rfl t57 (by omega) (by omega) (by decide) (by omega) (st_pany (by omega)) ?_
            refine z_aload_n (pc2 := 229) rfl rfl rfl ?_
            refine z_getP (pc2 := 232) rfl rfl rfl rfl t56 ?_
            intro p19 p19e p19k; replace p19k : p19 = some 57 := p19k; clear p19e; subst p19k
            refine z_iload (pc2 := 234) rfl rfl rfl ?_
            refine z_iconst (pc2 := 235) rfl rfl ?_
            refine z_iadd (pc2 := 236) rfl rfl ?_
            refine z_aload_n (pc2 := 237) rfl rfl rfl ?_
            refine z_getI (pc2 := 240) 0 rfl rfl rfl rfl rfl t56 ?_
            intro v20 e20 r20 k20
            clear e20
            replace k20 : (0 : Int) ≤ v20 ∧ v20 ≤ 12 := k20; clear r20
            refine z_iast (pc2 := 241) rfl rfl t57 (by omega) (by omega) (by decide) (by omega) (st_pn (by omega) (by omega)) ?_
            refine z_iconst (pc2 := 242) rfl rfl ?_
            refine z_istore (lv2 := [(6, _), (0, _), (1, _), (2, _), (3, _), (4, _), (5, _)]) (pc2 := 244) rfl rfl rfl rfl ?_
            refine z_lv (lv2 := [(0, _), (1, _), (2, _), (3, _), (4, _), (5, _), (6, _)]) ⟨rfl, rfl, rfl, rfl, rfl, rfl, rfl, trivial⟩ ?_
            exact l_makeup3 (q := q) (s := s) hT (by omega) (by omega) (by omega) (by omega) (by omega) (by omega) (by omega) hbt hq3 hs3 hE trivial _ _ _ _ (by omega) (by repeat (first | exact zMk_rf _ _ | assumption | refine zMk_n ?_ (by omega) | refine zMk_f ?_ (by decide))) (by repeat (first | exact zPs_s (by repeat (first | exact hps | refine zPs_u ?_ (by omega) (by omega))) (by omega) (by omega) | refine zPs_u ?_ (by omega) (by omega))) (Nat.lt_succ_self _)
          ·
            refine z_iconst (pc2 := 222) rfl rfl ?_
            refine z_goto (pc2 := 226) rfl rfl ?_
            refine z_iadd (pc2 := 227) rfl rfl ?_
            refine z_iast (pc2 := 228) rfl rfl t57 (by omega) (by omega) (by decide) (by omega) (st_pany (by omega)) ?_
            refine z_aload_n (pc2 := 229) rfl rfl rfl ?_
            refine z_getP (pc2 := 232) rfl rfl rfl rfl t56 ?_
            intro p21 p21e p21k; replace p21k : p21 = some 57 := p21k; clear p21e; subst p21k
            refine z_iload (pc2 := 234) rfl rfl rfl ?_
            refine z_iconst (pc2 := 235) rfl rfl ?_
            refine z_iadd (pc2 := 236) rfl rfl ?_
            refine z_aload_n (pc2 := 237) rfl rfl rfl ?_
            refine z_getI (pc2 := 240) 0 rfl rfl rfl rfl rfl t56 ?_
            intro v22 e22 r22 k22
            clear e22
            replace k22 : (0 : Int) ≤ v22 ∧ v22 ≤ 12 := k22; clear r22
            refine z_iast (pc2 := 241) rfl rfl t57 (by omega) (by omega) (by decide) (by omega) (st_pn (by omega) (by omega)) ?_
            refine z_iconst (pc2 := 242) rfl rfl ?_
            refine z_istore (lv2 := [(6, _), (0, _), (1, _), (2, _), (3, _), (4, _), (5, _)]) (pc2 := 244) rfl rfl rfl rfl ?_
            refine z_lv (lv2 := [(0, _), (1, _), (2, _), (3, _), (4, _), (5, _), (6, _)]) ⟨rfl, rfl, rfl, rfl, rfl, rfl, rfl, trivial⟩ ?_
            exact l_makeup3 (q := q) (s := s) hT (by omega) (by omega) (by omega) (by omega) (by omega) (by omega) (by omega) hbt hq3 hs3 hE trivial _ _ _ _ (by omega) (by repeat (first | exact zMk_rf _ _ | assumption | refine zMk_n ?_ (by omega) | refine zMk_f ?_ (by decide))) (by repeat (first | exact zPs_s (by repeat (first | exact hps | refine zPs_u ?_ (by omega) (by omega))) (by omega) (by omega) | refine zPs_u ?_ (by omega) (by omega))) (Nat.lt_succ_self _)
        ·
          refine z_iconst (pc2 := 208) rfl rfl ?_
          refine z_goto (pc2 := 212) rfl rfl ?_
          refine z_iadd (pc2 := 213) rfl rfl ?_
          refine z_aload_n (pc2 := 214) rfl rfl rfl ?_
          refine z_getI (pc2 := 217) 0 rfl rfl rfl rfl rfl t56 ?_
          intro v23 e23 r23 k23
          replace k23 : (0 : Int) ≤ v23 ∧ v23 ≤ 20000 := k23; clear r23
          replace e23 : v9 = v23 := by rw [e23]; first | exact e9 | exact Eq.symm e9 | (simp [zU]; first | done | exact e9 | exact Eq.symm e9 | omega)
          subst e23
          refine z_iload_n (pc2 := 218) rfl rfl rfl ?_
          refine z_icmp_le (t := 225) (pc2 := 221) rfl rfl rfl (by omega) (by omega) (fun c24 => ?_) (fun c24 => ?_)
          ·
            refine z_iconst (pc2 := 226) rfl rfl ?_
            refine z_iadd (pc2 := 227) rfl rfl ?_
            refine z_iast (pc2 := 228) rfl rfl t57 (by omega) (by omega) (by decide) (by omega) (st_pany (by omega)) ?_
            refine z_aload_n (pc2 := 229) rfl rfl rfl ?_
            refine z_getP (pc2 := 232) rfl rfl rfl rfl t56 ?_
            intro p25 p25e p25k; replace p25k : p25 = some 57 := p25k; clear p25e; subst p25k
            refine z_iload (pc2 := 234) rfl rfl rfl ?_
            refine z_iconst (pc2 := 235) rfl rfl ?_
            refine z_iadd (pc2 := 236) rfl rfl ?_
            refine z_aload_n (pc2 := 237) rfl rfl rfl ?_
            refine z_getI (pc2 := 240) 0 rfl rfl rfl rfl rfl t56 ?_
            intro v26 e26 r26 k26
            clear e26
            replace k26 : (0 : Int) ≤ v26 ∧ v26 ≤ 12 := k26; clear r26
            refine z_iast (pc2 := 241) rfl rfl t57 (by omega) (by omega) (by decide) (by omega) (st_pn (by omega) (by omega)) ?_
            refine z_iconst (pc2 := 242) rfl rfl ?_
            refine z_istore (lv2 := [(6, _), (0, _), (1, _), (2, _), (3, _), (4, _), (5, _)]) (pc2 := 244) rfl rfl rfl rfl ?_
            refine z_lv (lv2 := [(0, _), (1, _), (2, _), (3, _), (4, _), (5, _), (6, _)]) ⟨rfl, rfl, rfl, rfl, rfl, rfl, rfl, trivial⟩ ?_
            exact l_makeup3 (q := q) (s := s) hT (by omega) (by omega) (by omega) (by omega) (by omega) (by omega) (by omega) hbt hq3 hs3 hE trivial _ _ _ _ (by omega) (by repeat (first | exact zMk_rf _ _ | assumption | refine zMk_n ?_ (by omega) | refine zMk_f ?_ (by decide))) (by repeat (first | exact zPs_s (by repeat (first | exact hps | refine zPs_u ?_ (by omega) (by omega))) (by omega) (by omega) | refine zPs_u ?_ (by omega) (by omega))) (Nat.lt_succ_self _)
          ·
            refine z_iconst (pc2 := 222) rfl rfl ?_
            refine z_goto (pc2 := 226) rfl rfl ?_
            refine z_iadd (pc2 := 227) rfl rfl ?_
            refine z_iast (pc2 := 228) rfl rfl t57 (by omega) (by omega) (by decide) (by omega) (st_pany (by omega)) ?_
            refine z_aload_n (pc2 := 229) rfl rfl rfl ?_
            refine z_getP (pc2 := 232) rfl rfl rfl rfl t56 ?_
            intro p27 p27e p27k; replace p27k : p27 = some 57 := p27k; clear p27e; subst p27k
            refine z_iload (pc2 := 234) rfl rfl rfl ?_
            refine z_iconst (pc2 := 235) rfl rfl ?_
            refine z_iadd (pc2 := 236) rfl rfl ?_
            refine z_aload_n (pc2 := 237) rfl rfl rfl ?_
            refine z_getI (pc2 := 240) 0 rfl rfl rfl rfl rfl t56 ?_
            intro v28 e28 r28 k28
            clear e28
            replace k28 : (0 : Int) ≤ v28 ∧ v28 ≤ 12 := k28; clear r28
            refine z_iast (pc2 := 241) rfl rfl t57 (by omega) (by omega) (by decide) (by omega) (st_pn (by omega) (by omega)) ?_
            refine z_iconst (pc2 := 242) rfl rfl ?_
            refine z_istore (lv2 := [(6, _), (0, _), (1, _), (2, _), (3, _), (4, _), (5, _)]) (pc2 := 244) rfl rfl rfl rfl ?_
            refine z_lv (lv2 := [(0, _), (1, _), (2, _), (3, _), (4, _), (5, _), (6, _)]) ⟨rfl, rfl, rfl, rfl, rfl, rfl, rfl, trivial⟩ ?_
            exact l_makeup3 (q := q) (s := s) hT (by omega) (by omega) (by omega) (by omega) (by omega) (by omega) (by omega) hbt hq3 hs3 hE trivial _ _ _ _ (by omega) (by repeat (first | exact zMk_rf _ _ | assumption | refine zMk_n ?_ (by omega) | refine zMk_f ?_ (by decide))) (by repeat (first | exact zPs_s (by repeat (first | exact hps | refine zPs_u ?_ (by omega) (by omega))) (by omega) (by omega) | refine zPs_u ?_ (by omega) (by omega))) (Nat.lt_succ_self _)
      ·
        refine z_iconst (pc2 := 184) rfl rfl ?_
        refine z_goto (pc2 := 188) rfl rfl ?_
        refine z_aload_n (pc2 := 189) rfl rfl rfl ?_
        refine z_iload (pc2 := 191) rfl rfl rfl ?_
        refine z_aload_n (pc2 := 192) rfl rfl rfl ?_
        refine z_getP (pc2 := 195) rfl rfl rfl rfl t56 ?_
        intro p29 p29e p29k; replace p29k : p29 = some 89 := p29k; clear p29e; subst p29k
        refine z_iload (pc2 := 197) rfl rfl rfl ?_
        refine z_iald (pc2 := 198) rfl rfl t89 (by omega) (by omega) (by decide) ?_
        intro v30 e30 r30 k30
        replace k30 : (0 : Int) ≤ v30 ∧ v30 ≤ 100 := k30; clear r30
        replace e30 : s = v30 := by rw [e30]; first | exact (zMk_89 hI2 hs3) | exact Eq.symm (zMk_89 hI2 hs3) | (simp [zU]; first | done | exact (zMk_89 hI2 hs3) | exact Eq.symm (zMk_89 hI2 hs3) | omega)
        subst e30
        refine z_iadd (pc2 := 199) rfl rfl ?_
        refine z_iconst (pc2 := 200) rfl rfl ?_
        refine z_isub (pc2 := 201) rfl rfl ?_
        refine z_callV (y2 := 249) (as := [_]) (rest := [_, _, _]) (pc2 := 204) rfl rfl rfl rfl t56 rfl ?_
        refine m_isOrphan hT (by omega) (fun w31 w31r => ?_)
        show zB _ _ _ _ _ _ [_, _, _, _] _ _
        refine z_if_eq (t := 211) (pc2 := 207) rfl rfl rfl (by omega) (fun c32 => ?_) (fun c32 => ?_)
        ·
          refine z_iconst (pc2 := 212) rfl rfl ?_
          refine z_iadd (pc2 := 213) rfl rfl ?_
          refine z_aload_n (pc2 := 214) rfl rfl rfl ?_
          refine z_getI (pc2 := 217) 0 rfl rfl rfl rfl rfl t56 ?_
          intro v33 e33 r33 k33
          replace k33 : (0 : Int) ≤ v33 ∧ v33 ≤ 20000 := k33; clear r33
          replace e33 : v9 = v33 := by rw [e33]; first | exact e9 | exact Eq.symm e9 | (simp [zU]; first | done | exact e9 | exact Eq.symm e9 | omega)
          subst e33
          refine z_iload_n (pc2 := 218) rfl rfl rfl ?_
          refine z_icmp_le (t := 225) (pc2 := 221) rfl rfl rfl (by omega) (by omega) (fun c34 => ?_) (fun c34 => ?_)
          ·
            refine z_iconst (pc2 := 226) rfl rfl ?_
            refine z_iadd (pc2 := 227) rfl rfl ?_
            refine z_iast (pc2 := 228) rfl rfl t57 (by omega) (by omega) (by decide) (by omega) (st_pany (by omega)) ?_
            refine z_aload_n (pc2 := 229) rfl rfl rfl ?_
            refine z_getP (pc2 := 232) rfl rfl rfl rfl t56 ?_
            intro p35 p35e p35k; replace p35k : p35 = some 57 := p35k; clear p35e; subst p35k
            refine z_iload (pc2 := 234) rfl rfl rfl ?_
            refine z_iconst (pc2 := 235) rfl rfl ?_
            refine z_iadd (pc2 := 236) rfl rfl ?_
            refine z_aload_n (pc2 := 237) rfl rfl rfl ?_
            refine z_getI (pc2 := 240) 0 rfl rfl rfl rfl rfl t56 ?_
            intro v36 e36 r36 k36
            clear e36
            replace k36 : (0 : Int) ≤ v36 ∧ v36 ≤ 12 := k36; clear r36
            refine z_iast (pc2 := 241) rfl rfl t57 (by omega) (by omega) (by decide) (by omega) (st_pn (by omega) (by omega)) ?_
            refine z_iconst (pc2 := 242) rfl rfl ?_
            refine z_istore (lv2 := [(6, _), (0, _), (1, _), (2, _), (3, _), (4, _), (5, _)]) (pc2 := 244) rfl rfl rfl rfl ?_
            refine z_lv (lv2 := [(0, _), (1, _), (2, _), (3, _), (4, _), (5, _), (6, _)]) ⟨rfl, rfl, rfl, rfl, rfl, rfl, rfl, trivial⟩ ?_
            exact l_makeup3 (q := q) (s := s) hT (by omega) (by omega) (by omega) (by omega) (by omega) (by omega) (by omega) hbt hq3 hs3 hE trivial _ _ _ _ (by omega) (by repeat (first | exact zMk_rf _ _ | assumption | refine zMk_n ?_ (by omega) | refine zMk_f ?_ (by decide))) (by repeat (first | exact zPs_s (by repeat (first | exact hps | refine zPs_u ?_ (by omega) (by omega))) (by omega) (by omega) | refine zPs_u ?_ (by omega) (by omega))) (Nat.lt_succ_self _)
          ·
            refine z_iconst (pc2 := 222) rfl rfl ?_
            refine z_goto (pc2 := 226) rfl rfl ?_
            refine z_iadd (pc2 := 227) rfl rfl ?_
            refine z_iast (pc2 := 228) rfl rfl t57 (by omega) (by omega) (by decide) (by omega) (st_pany (by omega)) ?_
            refine z_aload_n (pc2 := 229) rfl rfl rfl ?_
            refine z_getP (pc2 := 232) rfl rfl rfl rfl t56 ?_
            intro p37 p37e p37k; replace p37k : p37 = some 57 := p37k; clear p37e; subst p37k
            refine z_iload (pc2 := 234) rfl rfl rfl ?_
            refine z_iconst (pc2 := 235) rfl rfl ?_
            refine z_iadd (pc2 := 236) rfl rfl ?_
            refine z_aload_n (pc2 := 237) rfl rfl rfl ?_
            refine z_getI (pc2 := 240) 0 rfl rfl rfl rfl rfl t56 ?_
            intro v38 e38 r38 k38
            clear e38
            replace k38 : (0 : Int) ≤ v38 ∧ v38 ≤ 12 := k38; clear r38
            refine z_iast (pc2 := 241) rfl rfl t57 (by omega) (by omega) (by decide) (by omega) (st_pn (by omega) (by omega)) ?_
            refine z_iconst (pc2 := 242) rfl rfl ?_
            refine z_istore (lv2 := [(6, _), (0, _), (1, _), (2, _), (3, _), (4, _), (5, _)]) (pc2 := 244) rfl rfl rfl rfl ?_
            refine z_lv (lv2 := [(0, _), (1, _), (2, _), (3, _), (4, _), (5, _), (6, _)]) ⟨rfl, rfl, rfl, rfl, rfl, rfl, rfl, trivial⟩ ?_
            exact l_makeup3 (q := q) (s := s) hT (by omega) (by omega) (by omega) (by omega) (by omega) (by omega) (by omega) hbt hq3 hs3 hE trivial _ _ _ _ (by omega) (by repeat (first | exact zMk_rf _ _ | assumption | refine zMk_n ?_ (by omega) | refine zMk_f ?_ (by decide))) (by repeat (first | exact zPs_s (by repeat (first | exact hps | refine zPs_u ?_ (by omega) (by omega))) (by omega) (by omega) | refine zPs_u ?_ (by omega) (by omega))) (Nat.lt_succ_self _)
        ·
          refine z_iconst (pc2 := 208) rfl rfl ?_
          refine z_goto (pc2 := 212) rfl rfl ?_
          refine z_iadd (pc2 := 213) rfl rfl ?_
          refine z_aload_n (pc2 := 214) rfl rfl rfl ?_
          refine z_getI (pc2 := 217) 0 rfl rfl rfl rfl rfl t56 ?_
          intro v39 e39 r39 k39
          replace k39 : (0 : Int) ≤ v39 ∧ v39 ≤ 20000 := k39; clear r39
          replace e39 : v9 = v39 := by rw [e39]; first | exact e9 | exact Eq.symm e9 | (simp [zU]; first | done | exact e9 | exact Eq.symm e9 | omega)
          subst e39
          refine z_iload_n (pc2 := 218) rfl rfl rfl ?_
          refine z_icmp_le (t := 225) (pc2 := 221) rfl rfl rfl (by omega) (by omega) (fun c40 => ?_) (fun c40 => ?_)
          ·
            refine z_iconst (pc2 := 226) rfl rfl ?_
            refine z_iadd (pc2 := 227) rfl rfl ?_
            refine z_iast (pc2 := 228) rfl rfl t57 (by omega) (by omega) (by decide) (by omega) (st_pany (by omega)) ?_
            refine z_aload_n (pc2 := 229) rfl rfl rfl ?_
            refine z_getP (pc2 := 232) rfl rfl rfl rfl t56 ?_
            intro p41 p41e p41k; replace p41k : p41 = some 57 := p41k; clear p41e; subst p41k
            refine z_iload (pc2 := 234) rfl rfl rfl ?_
            refine z_iconst (pc2 := 235) rfl rfl ?_
            refine z_iadd (pc2 := 236) rfl rfl ?_
            refine z_aload_n (pc2 := 237) rfl rfl rfl ?_
            refine z_getI (pc2 := 240) 0 rfl rfl rfl rfl rfl t56 ?_
            intro v42 e42 r42 k42
            clear e42
            replace k42 : (0 : Int) ≤ v42 ∧ v42 ≤ 12 := k42; clear r42
            refine z_iast (pc2 := 241) rfl rfl t57 (by omega) (by omega) (by decide) (by omega) (st_pn (by omega) (by omega)) ?_
            refine z_iconst (pc2 := 242) rfl rfl ?_
            refine z_istore (lv2 := [(6, _), (0, _), (1, _), (2, _), (3, _), (4, _), (5, _)]) (pc2 := 244) rfl rfl rfl rfl ?_
            refine z_lv (lv2 := [(0, _), (1, _), (2, _), (3, _), (4, _), (5, _), (6, _)]) ⟨rfl, rfl, rfl, rfl, rfl, rfl, rfl, trivial⟩ ?_
            exact l_makeup3 (q := q) (s := s) hT (by omega) (by omega) (by omega) (by omega) (by omega) (by omega) (by omega) hbt hq3 hs3 hE trivial _ _ _ _ (by omega) (by repeat (first | exact zMk_rf _ _ | assumption | refine zMk_n ?_ (by omega) | refine zMk_f ?_ (by decide))) (by repeat (first | exact zPs_s (by repeat (first | exact hps | refine zPs_u ?_ (by omega) (by omega))) (by omega) (by omega) | refine zPs_u ?_ (by omega) (by omega))) (Nat.lt_succ_self _)
          ·
            refine z_iconst (pc2 := 222) rfl rfl ?_
            refine z_goto (pc2 := 226) rfl rfl ?_
            refine z_iadd (pc2 := 227) rfl rfl ?_
            refine z_iast (pc2 := 228) rfl rfl t57 (by omega) (by omega) (by decide) (by omega) (st_pany (by omega)) ?_
            refine z_aload_n (pc2 := 229) rfl rfl rfl ?_
            refine z_getP (pc2 := 232) rfl rfl rfl rfl t56 ?_
            intro p43 p43e p43k; replace p43k : p43 = some 57 := p43k; clear p43e; subst p43k
            refine z_iload (pc2 := 234) rfl rfl rfl ?_
            refine z_iconst (pc2 := 235) rfl rfl ?_
            refine z_iadd (pc2 := 236) rfl rfl ?_
            refine z_aload_n (pc2 := 237) rfl rfl rfl ?_
            refine z_getI (pc2 := 240) 0 rfl rfl rfl rfl rfl t56 ?_
            intro v44 e44 r44 k44
            clear e44
            replace k44 : (0 : Int) ≤ v44 ∧ v44 ≤ 12 := k44; clear r44
            refine z_iast (pc2 := 241) rfl rfl t57 (by omega) (by omega) (by decide) (by omega) (st_pn (by omega) (by omega)) ?_
            refine z_iconst (pc2 := 242) rfl rfl ?_
            refine z_istore (lv2 := [(6, _), (0, _), (1, _), (2, _), (3, _), (4, _), (5, _)]) (pc2 := 244) rfl rfl rfl rfl ?_
            refine z_lv (lv2 := [(0, _), (1, _), (2, _), (3, _), (4, _), (5, _), (6, _)]) ⟨rfl, rfl, rfl, rfl, rfl, rfl, rfl, trivial⟩ ?_
            exact l_makeup3 (q := q) (s := s) hT (by omega) (by omega) (by omega) (by omega) (by omega) (by omega) (by omega) hbt hq3 hs3 hE trivial _ _ _ _ (by omega) (by repeat (first | exact zMk_rf _ _ | assumption | refine zMk_n ?_ (by omega) | refine zMk_f ?_ (by decide))) (by repeat (first | exact zPs_s (by repeat (first | exact hps | refine zPs_u ?_ (by omega) (by omega))) (by omega) (by omega) | refine zPs_u ?_ (by omega) (by omega))) (Nat.lt_succ_self _)
    ·
      refine z_aload_n (pc2 := 114) rfl rfl rfl ?_
      refine z_iload (pc2 := 116) rfl rfl rfl ?_
      refine z_iload (pc2 := 118) rfl rfl rfl ?_
      refine z_iadd (pc2 := 119) rfl rfl ?_
      refine z_callV (y2 := 247) (as := [_]) (rest := []) (pc2 := 122) rfl rfl rfl rfl t56 rfl ?_
      refine m_pageTakes (q := q) (H := H2) hT (by omega) (by omega) (by omega) (zMk_k hI2 (by decide) hq3) hH3 hn3 (zHt_m hht (by omega) hI2 (a + k) (by omega) (by omega)) (fun Iw45 Gw45 Hw45 pw45 nw45 hw45 bw45 => ?_)
      have xw45 := zMk_pg hI2 pw45; have yw45 := zPs_p hps pw45
      show zB _ _ _ _ _ _ [] _ _
      refine z_iinc (lv2 := [(6, _), (0, _), (1, _), (2, _), (3, _), (4, _), (5, _)]) (pc2 := 125) rfl rfl rfl rfl rfl ?_
      refine z_goto (pc2 := 101) rfl rfl ?_
      refine z_lv (lv2 := [(0, _), (1, _), (2, _), (3, _), (4, _), (5, _), (6, _)]) ⟨rfl, rfl, rfl, rfl, rfl, rfl, rfl, trivial⟩ ?_
      exact ih _ _ _ _ (by assumption) (by omega) (by omega) (by assumption) (by omega) (by assumption) (by assumption) (by omega)
set_option maxHeartbeats 8000000 in
theorem l_makeup1 {L : Nat} {xs : Nat → Int32} {n sl : Nat} {T : Nat → zT} {I : Nat → Nat → Int} {P : Nat → Nat → Option Nat} {K : List zV → zH → Prop} {x w q : Int} (hT : ∀ a, 56 ≤ a → a ≤ 90 → T a = zFix a) (hx : 1 ≤ x ∧ x ≤ 60) (hw : 1 ≤ w ∧ w ≤ 89) (hq : 0 ≤ q ∧ q ≤ 1) {V : Nat → Prop} (hV : zVj V w I) (hq3 : I 56 3 = q) (hht : zHt q w I) (h164 : I 57 (56100 * q + 164).toNat = w) (hK : ∀ e I2 G2, zFr I I2 → K [.inl e] (n, sl, T, I2, P, G2)) (m : Nat) : ∀ (I2 : Nat → Nat → Int) (G2 : Nat → Nat → Int), ∀ (p a : Int), 0 ≤ p ∧ p ≤ 89 → 0 ≤ a ∧ a ≤ 89 → zMk q I I2 → p ≤ a ∧ a ≤ w → (a = w ∨ V a.toNat) → zPs q p a I2 → (w - a).toNat < m → zB zMd L xs 252 73 [(0, .inr (.inl (some 56))), (1, .inl x), (2, .inl w), (3, .inl p), (4, .inl a)] [] (n, sl, T, I2, P, G2) K := by
  have t56 : T 56 = (1, 12, [1]) := hT 56 (by decide) (by decide)
  have t57 : T 57 = (2, 0, [112200, 1]) := hT 57 (by decide) (by decide)
  induction m with
  | zero => intro I2 G2 p a hp ha hI2 hb3 hva hps hm; omega
  | succ m ih =>
    intro I2 G2 p a hp ha hI2 hb3 hva hps hm
    refine z_iload (pc2 := 75) rfl rfl rfl ?_
    refine z_iload_n (pc2 := 76) rfl rfl rfl ?_
    refine z_icmp_ge (t := 296) (pc2 := 79) rfl rfl rfl (by omega) (by omega) (fun c1 => ?_) (fun c1 => ?_)
    ·
      refine z_aload_n (pc2 := 297) rfl rfl rfl ?_
      refine z_getP (pc2 := 300) rfl rfl rfl rfl t56 ?_
      intro p2 p2e p2k; replace p2k : p2 = some 57 := p2k; clear p2e; subst p2k
      refine z_aload_n (pc2 := 301) rfl rfl rfl ?_
      refine z_callV (y2 := 162) (as := []) (rest := [_]) (pc2 := 304) rfl rfl rfl rfl t56 rfl ?_
      refine z_inl ?_
      refine z_lv (lv2 := [(0, _)]) ⟨rfl, trivial⟩ ?_
      refine z_ldc (56100) (pc2 := 2) rfl rfl rfl ?_
      refine z_aload_n (pc2 := 3) rfl rfl rfl ?_
      refine z_getI (pc2 := 6) 0 rfl rfl rfl rfl rfl t56 ?_
      intro v3 e3 r3 k3
      replace k3 : (0 : Int) ≤ v3 ∧ v3 ≤ 1 := k3; clear r3
      replace e3 : q = v3 := by rw [e3]; first | exact (zMk_k hI2 (by decide) hq3) | exact Eq.symm (zMk_k hI2 (by decide) hq3) | (simp [zU]; first | done | exact (zMk_k hI2 (by decide) hq3) | exact Eq.symm (zMk_k hI2 (by decide) hq3) | omega)
      subst e3
      refine z_imul (pc2 := 7) rfl rfl ?_
      refine z_iret rfl rfl ?_
      show zB _ _ _ _ _ _ [_, _] _ _
      refine z_sipush (pc2 := 307) rfl rfl (by decide) ?_
      refine z_iadd (pc2 := 308) rfl rfl ?_
      refine z_iload_n (pc2 := 309) rfl rfl rfl ?_
      refine z_iast (pc2 := 310) rfl rfl t57 (by omega) (by omega) (by decide) (by omega) (st_lines (by omega) (by omega)) ?_
      refine z_aload_n (pc2 := 311) rfl rfl rfl ?_
      refine z_iload_n (pc2 := 312) rfl rfl rfl ?_
      refine z_callV (y2 := 158) (as := [_]) (rest := []) (pc2 := 315) rfl rfl rfl rfl t56 rfl ?_
      refine z_inl ?_
      refine z_lv (lv2 := [(0, _), (1, _)]) ⟨rfl, rfl, trivial⟩ ?_
      refine z_aload_n (pc2 := 1) rfl rfl rfl ?_
      refine z_iconst (pc2 := 2) rfl rfl ?_
      refine z_putI (pc2 := 5) rfl rfl rfl rfl rfl rfl t56 (by omega) True.intro ?_
      refine z_iload_n (pc2 := 6) rfl rfl rfl ?_
      refine z_iret rfl rfl ?_
      show zB _ _ _ _ _ _ [_] _ _
      refine z_iret rfl rfl ?_
      exact hK _ _ _ (by repeat (first | exact zMk_end hI2 (by rw [show w = a by omega]; exact hps) (by omega) (by omega) h164 | refine zFr_f ?_ (by decide)))
    ·
      refine z_aload_n (pc2 := 80) rfl rfl rfl ?_
      refine z_callV (y2 := 162) (as := []) (rest := []) (pc2 := 83) rfl rfl rfl rfl t56 rfl ?_
      refine z_inl ?_
      refine z_lv (lv2 := [(0, _)]) ⟨rfl, trivial⟩ ?_
      refine z_ldc (56100) (pc2 := 2) rfl rfl rfl ?_
      refine z_aload_n (pc2 := 3) rfl rfl rfl ?_
      refine z_getI (pc2 := 6) 0 rfl rfl rfl rfl rfl t56 ?_
      intro v4 e4 r4 k4
      replace k4 : (0 : Int) ≤ v4 ∧ v4 ≤ 1 := k4; clear r4
      replace e4 : q = v4 := by rw [e4]; first | exact (zMk_k hI2 (by decide) hq3) | exact Eq.symm (zMk_k hI2 (by decide) hq3) | (simp [zU]; first | done | exact (zMk_k hI2 (by decide) hq3) | exact Eq.symm (zMk_k hI2 (by decide) hq3) | omega)
      subst e4
      refine z_imul (pc2 := 7) rfl rfl ?_
      refine z_iret rfl rfl ?_
      show zB _ _ _ _ _ _ [_] _ _
      refine z_sipush (pc2 := 86) rfl rfl (by decide) ?_
      refine z_iadd (pc2 := 87) rfl rfl ?_
      refine z_bipush (pc2 := 89) rfl rfl (by decide) ?_
      refine z_iload_n (pc2 := 90) rfl rfl rfl ?_
      refine z_imul (pc2 := 91) rfl rfl ?_
      refine z_iadd (pc2 := 92) rfl rfl ?_
      refine z_istore (lv2 := [(5, _), (0, _), (1, _), (2, _), (3, _), (4, _)]) (pc2 := 94) rfl rfl rfl rfl ?_
      refine z_aload_n (pc2 := 95) rfl rfl rfl ?_
      refine z_callV (y2 := 246) (as := []) (rest := []) (pc2 := 98) rfl rfl rfl rfl t56 rfl ?_
      refine z_inl ?_
      refine z_lv (lv2 := [(0, _)]) ⟨rfl, trivial⟩ ?_
      refine z_aload_n (pc2 := 1) rfl rfl rfl ?_
      refine z_iconst (pc2 := 2) rfl rfl ?_
      refine z_putI (pc2 := 5) rfl rfl rfl rfl rfl rfl t56 (by omega) (by show (0 : Int) ≤ _ ∧ _ ≤ 20000; omega) ?_
      refine z_aload_n (pc2 := 6) rfl rfl rfl ?_
      refine z_iconst (pc2 := 7) rfl rfl ?_
      refine z_putI (pc2 := 10) rfl rfl rfl rfl rfl rfl t56 (by omega) (by show (0 : Int) ≤ _ ∧ _ ≤ 12; omega) ?_
      refine z_ret rfl rfl ?_
      show zB _ _ _ _ _ _ [] _ _
      refine z_iconst (pc2 := 99) rfl rfl ?_
      refine z_istore (lv2 := [(6, _), (5, _), (0, _), (1, _), (2, _), (3, _), (4, _)]) (pc2 := 101) rfl rfl rfl rfl ?_
      refine z_lv (lv2 := [(0, _), (1, _), (2, _), (3, _), (4, _), (5, _), (6, _)]) ⟨rfl, rfl, rfl, rfl, rfl, rfl, rfl, trivial⟩ ?_
      have hsv := hV _ (hva.resolve_left (by omega))
      have hsle : a + I 89 a.toNat ≤ w := by rcases hsv.2.2.2 with e | e; omega; have h5 := (hV _ e).1; omega
      have hsl2 : 1 ≤ I 89 a.toNat ∧ I 89 a.toNat ≤ 60 := ⟨hsv.2.1, hsv.2.2.1⟩
      exact l_makeup2 (q := q) (s := I 89 a.toNat) hT (by omega) (by omega) (by omega) (by omega) (by omega) (by omega) (by omega) rfl hq3 rfl (by omega) hht (fun I3 G3 h1 h2 => ih I3 G3 _ _ (by omega) (by omega) h1 (by omega) (by rcases hsv.2.2.2 with e | e; exact Or.inl (by omega); exact Or.inr (by rw [show (a + I 89 a.toNat).toNat = a.toNat + (I 89 a.toNat).toNat by omega]; exact e)) h2 (by omega)) trivial _ _ _ _ 0 (by simp [zU]) (by omega) (by omega) (by repeat (first | exact zMk_rf _ _ | assumption | refine zMk_n ?_ (by omega) | refine zMk_f ?_ (by decide))) (by omega) (zNp_0 (by simp [zU])) (zPs_f (zPs_f hps (by decide)) (by decide)) (Nat.lt_succ_self _)
set_option maxHeartbeats 8000000 in
theorem m_makeup {L : Nat} {xs : Nat → Int32} {n sl : Nat} {T : Nat → zT} {I : Nat → Nat → Int} {P : Nat → Nat → Option Nat} {G : Nat → Nat → Int} {K : List zV → zH → Prop} {x : Int} (hT : ∀ a, 56 ≤ a → a ≤ 90 → T a = zFix a) (hx : zR x) (hrl : zRl I) (hK : ∀ e I2 G2, zFr I I2 → K [.inl e] (n, sl, T, I2, P, G2)) : zX zMd L xs 252 [.inr (.inl (some 56)), .inl x] (n, sl, T, I, P, G) K := by
  have t56 : T 56 = (1, 12, [1]) := hT 56 (by decide) (by decide)
  have t57 : T 57 = (2, 0, [112200, 1]) := hT 57 (by decide) (by decide)
  refine z_inl ?_
  refine z_lv (lv2 := [(0, _), (1, _)]) ⟨rfl, rfl, trivial⟩ ?_
  refine z_iload_n (pc2 := 1) rfl rfl rfl ?_
  refine z_i2l (pc2 := 2) rfl rfl (by omega) ?_
  refine z_lconst 1 (pc2 := 3) rfl rfl rfl ?_
  refine z_ldc2 (60) (pc2 := 6) rfl rfl rfl ?_
  refine z_callS (y2 := 157) (as := [_, _, _]) (rest := []) (pc2 := 9) rfl rfl rfl rfl ?_
  refine m_in (by omega) (by omega) (by omega) (fun e1 e1a e1b e1c => ?_)
  show zB _ _ _ _ _ _ [_] _ _
  refine z_if_ne (t := 18) (pc2 := 12) rfl rfl rfl (by omega) (fun c2 => ?_) (fun c2 => ?_)
  ·
    refine z_aload_n (pc2 := 19) rfl rfl rfl ?_
    refine z_getP (pc2 := 22) rfl rfl rfl rfl t56 ?_
    intro p3 p3e p3k; replace p3k : p3 = some 57 := p3k; clear p3e; subst p3k
    refine z_aload_n (pc2 := 23) rfl rfl rfl ?_
    refine z_callV (y2 := 162) (as := []) (rest := [_]) (pc2 := 26) rfl rfl rfl rfl t56 rfl ?_
    refine z_inl ?_
    refine z_lv (lv2 := [(0, _)]) ⟨rfl, trivial⟩ ?_
    refine z_ldc (56100) (pc2 := 2) rfl rfl rfl ?_
    refine z_aload_n (pc2 := 3) rfl rfl rfl ?_
    refine z_getI (pc2 := 6) 0 rfl rfl rfl rfl rfl t56 ?_
    intro v4 e4 r4 k4
    replace k4 : (0 : Int) ≤ v4 ∧ v4 ≤ 1 := k4; clear r4
    refine z_imul (pc2 := 7) rfl rfl ?_
    refine z_iret rfl rfl ?_
    show zB _ _ _ _ _ _ [_, _] _ _
    refine z_sipush (pc2 := 29) rfl rfl (by decide) ?_
    refine z_iadd (pc2 := 30) rfl rfl ?_
    refine z_iald (pc2 := 31) rfl rfl t57 (by omega) (by omega) (by decide) ?_
    intro v5 e5 r5 k5
    replace k5 := ok_lines k5 (by omega); clear r5
    refine z_istore_n (lv2 := [(2, _), (0, _), (1, _)]) (pc2 := 32) rfl rfl rfl rfl ?_
    refine z_iload_n (pc2 := 33) rfl rfl rfl ?_
    refine z_if_ne (t := 43) (pc2 := 36) rfl rfl rfl (by omega) (fun c6 => ?_) (fun c6 => ?_)
    ·
      refine z_aload_n (pc2 := 44) rfl rfl rfl ?_
      refine z_callV (y2 := 167) (as := []) (rest := []) (pc2 := 47) rfl rfl rfl rfl t56 rfl ?_
      refine m_keep hT (fun Iw7 Gw7 fw7 ow7 => ?_)
      replace fw7 := zFr_tr (I := I) (by repeat (first | exact zFr_rf _ | assumption | refine zFr_a ?_ (by decide) | refine zFr_f ?_ (by decide) | refine zFr_n ?_ (by omega) | refine zFr_h ?_ (by omega) | refine zFr_tok ?_ (by omega))) fw7
      show zB _ _ _ _ _ _ [] _ _
      refine z_iload_n (pc2 := 48) rfl rfl rfl ?_
      refine z_bipush (pc2 := 50) rfl rfl (by decide) ?_
      refine z_icmp_gt (t := 62) (pc2 := 53) rfl rfl rfl (by omega) (by omega) (fun c8 => ?_) (fun c8 => ?_)
      ·
        refine z_aload_n (pc2 := 63) rfl rfl rfl ?_
        refine z_iload_n (pc2 := 64) rfl rfl rfl ?_
        refine z_iload_n (pc2 := 65) rfl rfl rfl ?_
        refine z_callV (y2 := 251) (as := [_, _]) (rest := []) (pc2 := 68) rfl rfl rfl rfl t56 rfl ?_
        have hq3 : Iw7 56 3 = v4 := (ow7 56 3 (by omega) (by omega)).trans (Eq.symm (by assumption))
        have hw4 : Iw7 57 (56100 * v4 + 164).toNat = v5 := (ow7 57 _ (by omega) (by omega)).trans (Eq.symm (by assumption))
        refine zX_wf (fun hw => ?_)
        have hht := zHt_rl hT hw (fw7.2 hrl) (by omega) hw4
        refine m_fillPages (q := v4) hT (by omega) (by omega) (by omega) hq3 hht (fun Iw9 Gw9 pw9 vw9 => ?_)
        show zB _ _ _ _ _ _ [] _ _
        refine z_iconst (pc2 := 69) rfl rfl ?_
        refine z_istore_n (lv2 := [(3, _), (2, _), (0, _), (1, _)]) (pc2 := 70) rfl rfl rfl rfl ?_
        refine z_iconst (pc2 := 71) rfl rfl ?_
        refine z_istore (lv2 := [(4, _), (3, _), (2, _), (0, _), (1, _)]) (pc2 := 73) rfl rfl rfl rfl ?_
        obtain ⟨V, hV0, hV⟩ := vw9
        refine z_lv (lv2 := [(0, _), (1, _), (2, _), (3, _), (4, _)]) ⟨rfl, rfl, rfl, rfl, rfl, trivial⟩ ?_
        exact l_makeup1 (q := v4) hT (by omega) (by omega) (by omega) hV (zPq_k pw9 (by decide) hq3) (zHt_q hht pw9) (by rw [(pw9 57 _).resolve_left (by omega)]; exact hw4) (fun e I9 G9 h9 => hK e I9 G9 (zFr_tr (zFr_tr fw7 (zFr_pq pw9)) h9)) _ _ _ _ _ (by omega) (by omega) (zMk_rf _ _) (by omega) (Or.inr (hV0.resolve_left (by omega))) zPs_0 (Nat.lt_succ_self _)
      ·
        refine z_aload_n (pc2 := 54) rfl rfl rfl ?_
        refine z_iload_n (pc2 := 55) rfl rfl rfl ?_
        refine z_iload_n (pc2 := 56) rfl rfl rfl ?_
        refine z_callV (y2 := 250) (as := [_, _]) (rest := []) (pc2 := 59) rfl rfl rfl rfl t56 rfl ?_
        have hq3 : Iw7 56 3 = v4 := (ow7 56 3 (by omega) (by omega)).trans (Eq.symm (by assumption))
        have hw4 : Iw7 57 (56100 * v4 + 164).toNat = v5 := (ow7 57 _ (by omega) (by omega)).trans (Eq.symm (by assumption))
        refine zX_wf (fun hw => ?_)
        have hht := zHt_rl hT hw (fw7.2 hrl) (by omega) hw4
        refine m_choosePages (q := v4) hT (by omega) (by omega) (by omega) hq3 hht (fun Iw10 Gw10 pw10 vw10 => ?_)
        replace vw10 := zVi_m vw10 (by omega)
        show zB _ _ _ _ _ _ [] _ _
        refine z_goto (pc2 := 68) rfl rfl ?_
        refine z_iconst (pc2 := 69) rfl rfl ?_
        refine z_istore_n (lv2 := [(3, _), (2, _), (0, _), (1, _)]) (pc2 := 70) rfl rfl rfl rfl ?_
        refine z_iconst (pc2 := 71) rfl rfl ?_
        refine z_istore (lv2 := [(4, _), (3, _), (2, _), (0, _), (1, _)]) (pc2 := 73) rfl rfl rfl rfl ?_
        obtain ⟨V, hV0, hV⟩ := vw10
        refine z_lv (lv2 := [(0, _), (1, _), (2, _), (3, _), (4, _)]) ⟨rfl, rfl, rfl, rfl, rfl, trivial⟩ ?_
        exact l_makeup1 (q := v4) hT (by omega) (by omega) (by omega) hV (zPq_k pw10 (by decide) hq3) (zHt_q hht pw10) (by rw [(pw10 57 _).resolve_left (by omega)]; exact hw4) (fun e I9 G9 h9 => hK e I9 G9 (zFr_tr (zFr_tr fw7 (zFr_pq pw10)) h9)) _ _ _ _ _ (by omega) (by omega) (zMk_rf _ _) (by omega) (Or.inr (hV0.resolve_left (by omega))) zPs_0 (Nat.lt_succ_self _)
    ·
      refine z_aload_n (pc2 := 37) rfl rfl rfl ?_
      refine z_bipush (pc2 := 39) rfl rfl (by decide) ?_
      refine z_callV (y2 := 159) (as := [_]) (rest := []) (pc2 := 42) rfl rfl rfl rfl t56 rfl ?_
      refine z_inl ?_
      refine z_lv (lv2 := [(0, _), (1, _)]) ⟨rfl, rfl, trivial⟩ ?_
      refine z_aload_n (pc2 := 1) rfl rfl rfl ?_
      refine z_iload_n (pc2 := 2) rfl rfl rfl ?_
      refine z_putI (pc2 := 5) rfl rfl rfl rfl rfl rfl t56 (by omega) True.intro ?_
      refine z_iload_n (pc2 := 6) rfl rfl rfl ?_
      refine z_iret rfl rfl ?_
      show zB _ _ _ _ _ _ [_] _ _
      refine z_iret rfl rfl ?_
      exact hK _ _ _ (by repeat (first | exact zFr_rf _ | assumption | refine zFr_a ?_ (by decide) | refine zFr_f ?_ (by decide) | refine zFr_n ?_ (by omega) | refine zFr_h ?_ (by omega) | refine zFr_tok ?_ (by omega)))
  ·
    refine z_aload_n (pc2 := 13) rfl rfl rfl ?_
    refine z_iconst (pc2 := 14) rfl rfl ?_
    refine z_callV (y2 := 159) (as := [_]) (rest := []) (pc2 := 17) rfl rfl rfl rfl t56 rfl ?_
    refine z_inl ?_
    refine z_lv (lv2 := [(0, _), (1, _)]) ⟨rfl, rfl, trivial⟩ ?_
    refine z_aload_n (pc2 := 1) rfl rfl rfl ?_
    refine z_iload_n (pc2 := 2) rfl rfl rfl ?_
    refine z_putI (pc2 := 5) rfl rfl rfl rfl rfl rfl t56 (by omega) True.intro ?_
    refine z_iload_n (pc2 := 6) rfl rfl rfl ?_
    refine z_iret rfl rfl ?_
    show zB _ _ _ _ _ _ [_] _ _
    refine z_iret rfl rfl ?_
    exact hK _ _ _ (by repeat (first | exact zFr_rf _ | assumption | refine zFr_a ?_ (by decide) | refine zFr_f ?_ (by decide) | refine zFr_n ?_ (by omega) | refine zFr_h ?_ (by omega) | refine zFr_tok ?_ (by omega)))
