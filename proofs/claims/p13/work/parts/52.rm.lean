/-! the reference: a line comes into the galley -/
set_option maxHeartbeats 8000000 in
theorem l_sets2 {L : Nat} {xs : Nat → Int32} {n sl : Nat} {T : Nat → zT} {I : Nat → Nat → Int} {P : Nat → Nat → Option Nat} {K : List zV → zH → Prop} {a q l f : Int} (hT : ∀ a, 56 ≤ a → a ≤ 90 → T a = zFix a) (ha : 0 ≤ a ∧ a ≤ 112200) (hq : 0 ≤ q ∧ q ≤ 1) (hl : 0 ≤ l ∧ l ≤ 88) (hf : 0 ≤ f ∧ f ≤ 3) (hat : a = 56100 * q + 1940 + 66 * l) (hK : ∀ I2 G2, zSe q l I I2 → I2 57 (56100 * q + 164).toNat = l + 1 → I2 57 (56100 * q + 1941 + 66 * l).toNat = f → K [] (n, sl, T, I2, P, G2)) (m : Nat) : ∀ (I2 : Nat → Nat → Int) (G2 : Nat → Nat → Int), ∀ (k L2 : Int), I2 56 31 = L2 → 0 ≤ k ∧ k ≤ 42 → 0 ≤ L2 ∧ L2 ≤ 40 → zSf q l f I I2 → k ≤ L2 → (42 - k).toNat < m → zB zMd L xs 239 281 [(0, .inr (.inl (some 56))), (12, .inl a), (13, .inl k)] [] (n, sl, T, I2, P, G2) K := by
  have t56 : T 56 = (1, 12, [1]) := hT 56 (by decide) (by decide)
  have t57 : T 57 = (2, 0, [112200, 1]) := hT 57 (by decide) (by decide)
  have t82 : T 82 = (2, 0, [42, 8]) := hT 82 (by decide) (by decide)
  induction m with
  | zero => intro I2 G2 k L2 hL3 hk hL2 hI2 hb3 hm; omega
  | succ m ih =>
    intro I2 G2 k L2 hL3 hk hL2 hI2 hb3 hm
    refine z_iload (pc2 := 283) rfl rfl rfl ?_
    refine z_aload_n (pc2 := 284) rfl rfl rfl ?_
    refine z_getI (pc2 := 287) 0 rfl rfl rfl rfl rfl t56 ?_
    intro v1 e1 r1 k1
    replace k1 : (0 : Int) ≤ v1 ∧ v1 ≤ 42 := k1; clear r1
    replace e1 : L2 = v1 := by rw [e1]; first | exact hL3 | exact Eq.symm hL3 | (simp [zU]; first | done | exact hL3 | exact Eq.symm hL3 | omega)
    subst e1
    refine z_icmp_ge (t := 316) (pc2 := 290) rfl rfl rfl (by omega) (by omega) (fun c2 => ?_) (fun c2 => ?_)
    ·
      refine z_aload_n (pc2 := 317) rfl rfl rfl ?_
      refine z_getP (pc2 := 320) rfl rfl rfl rfl t56 ?_
      intro p3 p3e p3k; replace p3k : p3 = some 57 := p3k; clear p3e; subst p3k
      refine z_aload_n (pc2 := 321) rfl rfl rfl ?_
      refine z_callV (y2 := 162) (as := []) (rest := [_]) (pc2 := 324) rfl rfl rfl rfl t56 rfl ?_
      refine z_inl ?_
      refine z_lv (lv2 := [(0, _)]) ⟨rfl, trivial⟩ ?_
      refine z_ldc (56100) (pc2 := 2) rfl rfl rfl ?_
      refine z_aload_n (pc2 := 3) rfl rfl rfl ?_
      refine z_getI (pc2 := 6) 0 rfl rfl rfl rfl rfl t56 ?_
      intro v4 e4 r4 k4
      replace k4 : (0 : Int) ≤ v4 ∧ v4 ≤ 1 := k4; clear r4
      replace e4 : q = v4 := by rw [e4]; first | exact hI2.2.2.2 | exact Eq.symm hI2.2.2.2 | (simp [zU]; first | done | exact hI2.2.2.2 | exact Eq.symm hI2.2.2.2 | omega)
      subst e4
      refine z_imul (pc2 := 7) rfl rfl ?_
      refine z_iret rfl rfl ?_
      show zB _ _ _ _ _ _ [_, _] _ _
      refine z_sipush (pc2 := 327) rfl rfl (by decide) ?_
      refine z_iadd (pc2 := 328) rfl rfl ?_
      refine z_dup2 (pc2 := 329) rfl rfl rfl rfl ?_
      refine z_iald (pc2 := 330) rfl rfl t57 (by omega) (by omega) (by decide) ?_
      intro v5 e5 r5 k5
      replace k5 := ok_lines k5 (by omega); clear r5
      replace e5 : l = v5 := by rw [e5]; first | exact hI2.2.1 | exact Eq.symm hI2.2.1 | (simp [zU]; first | done | exact hI2.2.1 | exact Eq.symm hI2.2.1 | omega)
      subst e5
      refine z_iconst (pc2 := 331) rfl rfl ?_
      refine z_iadd (pc2 := 332) rfl rfl ?_
      refine z_iast (pc2 := 333) rfl rfl t57 (by omega) (by omega) (by decide) (by omega) (st_lines (by omega) (by omega)) ?_
      refine z_ret rfl rfl ?_
      exact hK _ _ (zSe_n hI2.1 (by omega)) (zU_same _ _ _ _) (by rw [zU_at _ _ _ (by omega)]; exact hI2.2.2.1)
    ·
      refine z_aload_n (pc2 := 291) rfl rfl rfl ?_
      refine z_getP (pc2 := 294) rfl rfl rfl rfl t56 ?_
      intro p6 p6e p6k; replace p6k : p6 = some 57 := p6k; clear p6e; subst p6k
      refine z_iload (pc2 := 296) rfl rfl rfl ?_
      refine z_bipush (pc2 := 298) rfl rfl (by decide) ?_
      refine z_iadd (pc2 := 299) rfl rfl ?_
      refine z_iload (pc2 := 301) rfl rfl rfl ?_
      refine z_iadd (pc2 := 302) rfl rfl ?_
      refine z_aload_n (pc2 := 303) rfl rfl rfl ?_
      refine z_getP (pc2 := 306) rfl rfl rfl rfl t56 ?_
      intro p7 p7e p7k; replace p7k : p7 = some 82 := p7k; clear p7e; subst p7k
      refine z_iload (pc2 := 308) rfl rfl rfl ?_
      refine z_iald (pc2 := 309) rfl rfl t82 (by omega) (by omega) (by decide) ?_
      intro v8 e8 r8 k8
      clear e8
      replace k8 : zGd v8 := k8
      refine z_iast (pc2 := 310) rfl rfl t57 (by omega) (by omega) (by decide) (by omega) (st_lsort (by omega) (by first | assumption | exact zGd_0 | (unfold zGd; refine ⟨⟨?_, ?_⟩, ⟨?_, ?_⟩, ?_⟩ <;> omega))) ?_
      refine z_iinc (lv2 := [(13, _), (0, _), (12, _)]) (pc2 := 313) rfl rfl rfl rfl rfl ?_
      refine z_goto (pc2 := 281) rfl rfl ?_
      refine z_lv (lv2 := [(0, _), (12, _), (13, _)]) ⟨rfl, rfl, rfl, trivial⟩ ?_
      exact ih _ _ _ _ (by first | assumption | (rw [zU_row _ _ _ (by decide)]; assumption)) (by omega) (by omega) (zSf_u (by omega) (by omega) hI2 (by omega)) (by omega) (by omega)
set_option maxHeartbeats 8000000 in
theorem l_sets1 {L : Nat} {xs : Nat → Int32} {n sl : Nat} {T : Nat → zT} {I : Nat → Nat → Int} {P : Nat → Nat → Option Nat} {K : List zV → zH → Prop} {a q l f : Int} (hT : ∀ a, 56 ≤ a → a ≤ 90 → T a = zFix a) (ha : 0 ≤ a ∧ a ≤ 112200) (hq : 0 ≤ q ∧ q ≤ 1) (hl : 0 ≤ l ∧ l ≤ 88) (hf : 0 ≤ f ∧ f ≤ 3) (hat : a = 56100 * q + 1940 + 66 * l) (hK : ∀ I2 G2, zSe q l I I2 → I2 57 (56100 * q + 164).toNat = l + 1 → I2 57 (56100 * q + 1941 + 66 * l).toNat = f → K [] (n, sl, T, I2, P, G2)) (m : Nat) : ∀ (I2 : Nat → Nat → Int) (G2 : Nat → Nat → Int), ∀ (k L2 : Int), I2 56 31 = L2 → 0 ≤ k ∧ k ≤ 12 → 0 ≤ L2 ∧ L2 ≤ 40 → zSf q l f I I2 → (12 - k).toNat < m → zB zMd L xs 239 243 [(0, .inr (.inl (some 56))), (12, .inl a), (13, .inl k)] [] (n, sl, T, I2, P, G2) K := by
  have t56 : T 56 = (1, 12, [1]) := hT 56 (by decide) (by decide)
  have t57 : T 57 = (2, 0, [112200, 1]) := hT 57 (by decide) (by decide)
  have t83 : T 83 = (2, 0, [12, 9]) := hT 83 (by decide) (by decide)
  induction m with
  | zero => intro I2 G2 k L2 hL3 hk hL2 hI2 hm; omega
  | succ m ih =>
    intro I2 G2 k L2 hL3 hk hL2 hI2 hm
    refine z_iload (pc2 := 245) rfl rfl rfl ?_
    refine z_aload_n (pc2 := 246) rfl rfl rfl ?_
    refine z_getI (pc2 := 249) 0 rfl rfl rfl rfl rfl t56 ?_
    intro v1 e1 r1 k1
    clear e1
    replace k1 : (0 : Int) ≤ v1 ∧ v1 ≤ 12 := k1; clear r1
    refine z_icmp_ge (t := 278) (pc2 := 252) rfl rfl rfl (by omega) (by omega) (fun c2 => ?_) (fun c2 => ?_)
    ·
      refine z_iconst (pc2 := 279) rfl rfl ?_
      refine z_istore (lv2 := [(13, _), (0, _), (12, _)]) (pc2 := 281) rfl rfl rfl rfl ?_
      refine z_lv (lv2 := [(0, _), (12, _), (13, _)]) ⟨rfl, rfl, rfl, trivial⟩ ?_
      exact l_sets2 hT (by omega) (by omega) (by omega) (by omega) hat hK _ _ _ _ L2 hL3 (by omega) (by omega) hI2 (by omega) (Nat.lt_succ_self _)
    ·
      refine z_aload_n (pc2 := 253) rfl rfl rfl ?_
      refine z_getP (pc2 := 256) rfl rfl rfl rfl t56 ?_
      intro p3 p3e p3k; replace p3k : p3 = some 57 := p3k; clear p3e; subst p3k
      refine z_iload (pc2 := 258) rfl rfl rfl ?_
      refine z_bipush (pc2 := 260) rfl rfl (by decide) ?_
      refine z_iadd (pc2 := 261) rfl rfl ?_
      refine z_iload (pc2 := 263) rfl rfl rfl ?_
      refine z_iadd (pc2 := 264) rfl rfl ?_
      refine z_aload_n (pc2 := 265) rfl rfl rfl ?_
      refine z_getP (pc2 := 268) rfl rfl rfl rfl t56 ?_
      intro p4 p4e p4k; replace p4k : p4 = some 83 := p4k; clear p4e; subst p4k
      refine z_iload (pc2 := 270) rfl rfl rfl ?_
      refine z_iald (pc2 := 271) rfl rfl t83 (by omega) (by omega) (by decide) ?_
      intro v5 e5 r5 k5
      clear e5
      replace k5 : (0 : Int) ≤ v5 ∧ v5 ≤ 11 := k5; clear r5
      refine z_iast (pc2 := 272) rfl rfl t57 (by omega) (by omega) (by decide) (by omega) (st_lnote (by omega) (by omega)) ?_
      refine z_iinc (lv2 := [(13, _), (0, _), (12, _)]) (pc2 := 275) rfl rfl rfl rfl rfl ?_
      refine z_goto (pc2 := 243) rfl rfl ?_
      refine z_lv (lv2 := [(0, _), (12, _), (13, _)]) ⟨rfl, rfl, rfl, trivial⟩ ?_
      exact ih _ _ _ _ (by first | assumption | (rw [zU_row _ _ _ (by decide)]; assumption)) (by omega) (by omega) (zSf_u (by omega) (by omega) hI2 (by omega)) (by omega)
set_option maxHeartbeats 8000000 in
theorem m_sets {L : Nat} {xs : Nat → Int32} {n sl : Nat} {T : Nat → zT} {I : Nat → Nat → Int} {P : Nat → Nat → Option Nat} {G : Nat → Nat → Int} {K : List zV → zH → Prop} {p f m2 a x N q l : Int} (hT : ∀ a, 56 ≤ a → a ≤ 90 → T a = zFix a) (hp : 0 ≤ p ∧ p ≤ 11) (hf : 0 ≤ f ∧ f ≤ 3) (hm2 : 0 ≤ m2 ∧ m2 ≤ 300) (ha : 0 ≤ a ∧ a ≤ 39) (hx : zR x) (hN : 1 ≤ N ∧ N ≤ 40) (hq : 0 ≤ q ∧ q ≤ 1) (hl : 0 ≤ l ∧ l ≤ 88) (hgo : zGo N I) (haN : a < N) (hrl : zRp q I) (hq3 : I 56 3 = q) (hLN : I 57 (56100 * q + 164).toNat = l) (hK : ∀ I2 G2, zSe q l I I2 → I2 57 (56100 * q + 164).toNat = l + 1 → I2 57 (56100 * q + 1941 + 66 * l).toNat = f → K [] (n, sl, T, I2, P, G2)) : zX zMd L xs 239 [.inr (.inl (some 56)), .inl p, .inl f, .inl m2, .inl a, .inl x] (n, sl, T, I, P, G) K := by
  have t56 : T 56 = (1, 12, [1]) := hT 56 (by decide) (by decide)
  have t57 : T 57 = (2, 0, [112200, 1]) := hT 57 (by decide) (by decide)
  have t84 : T 84 = (2, 0, [42, 10]) := hT 84 (by decide) (by decide)
  have t85 : T 85 = (2, 0, [42, 11]) := hT 85 (by decide) (by decide)
  refine z_inl ?_
  refine z_lv (lv2 := [(0, _), (1, _), (2, _), (3, _), (4, _), (5, _)]) ⟨rfl, rfl, rfl, rfl, rfl, rfl, trivial⟩ ?_
  refine z_aload_n (pc2 := 1) rfl rfl rfl ?_
  refine z_getP (pc2 := 4) rfl rfl rfl rfl t56 ?_
  intro p1 p1e p1k; replace p1k : p1 = some 85 := p1k; clear p1e; subst p1k
  refine z_iload (pc2 := 6) rfl rfl rfl ?_
  refine z_iald (pc2 := 7) rfl rfl t85 (by omega) (by omega) (by decide) ?_
  intro v2 e2 r2 k2
  replace k2 : (-4 : Int) ≤ v2 ∧ v2 ≤ 41 := k2; clear r2
  have nx := zGo_nx hgo (by assumption) (by omega) (by omega)
  refine z_istore (lv2 := [(6, _), (0, _), (1, _), (2, _), (3, _), (4, _), (5, _)]) (pc2 := 9) rfl rfl rfl rfl ?_
  refine z_iload (pc2 := 11) rfl rfl rfl ?_
  refine z_aload_n (pc2 := 12) rfl rfl rfl ?_
  refine z_getI (pc2 := 15) 0 rfl rfl rfl rfl rfl t56 ?_
  intro v3 e3 r3 k3
  replace k3 : (0 : Int) ≤ v3 ∧ v3 ≤ 41 := k3; clear r3
  replace e3 : N = v3 := by rw [e3]; first | exact hgo.1 | exact Eq.symm hgo.1 | (simp [zU]; first | done | exact hgo.1 | exact Eq.symm hgo.1 | omega)
  subst e3
  refine z_icmp_ne (t := 22) (pc2 := 18) rfl rfl rfl (by omega) (by omega) (fun c4 => ?_) (fun c4 => ?_)
  ·
    refine z_iconst (pc2 := 23) rfl rfl ?_
    refine z_istore (lv2 := [(7, _), (6, _), (0, _), (1, _), (2, _), (3, _), (4, _), (5, _)]) (pc2 := 25) rfl rfl rfl rfl ?_
    refine z_aload_n (pc2 := 26) rfl rfl rfl ?_
    refine z_aload_n (pc2 := 27) rfl rfl rfl ?_
    refine z_getP (pc2 := 30) rfl rfl rfl rfl t56 ?_
    intro p5 p5e p5k; replace p5k : p5 = some 84 := p5k; clear p5e; subst p5k
    refine z_iload (pc2 := 32) rfl rfl rfl ?_
    refine z_iald (pc2 := 33) rfl rfl t84 (by omega) (by omega) (by decide) ?_
    intro v6 e6 r6 k6
    clear e6
    replace k6 : (0 : Int) ≤ v6 ∧ v6 ≤ 40 := k6; clear r6
    refine z_aload_n (pc2 := 34) rfl rfl rfl ?_
    refine z_getP (pc2 := 37) rfl rfl rfl rfl t56 ?_
    intro p7 p7e p7k; replace p7k : p7 = some 84 := p7k; clear p7e; subst p7k
    refine z_iload (pc2 := 39) rfl rfl rfl ?_
    refine z_iald (pc2 := 40) rfl rfl t84 (by omega) (by omega) (by decide) ?_
    intro v8 e8 r8 k8
    clear e8
    replace k8 : (0 : Int) ≤ v8 ∧ v8 ≤ 40 := k8; clear r8
    refine z_callV (y2 := 230) (as := [_, _]) (rest := []) (pc2 := 43) rfl rfl rfl rfl t56 rfl ?_
    refine m_lineOf hT (by omega) (by omega) (zRp_tok hrl) (fun Iw9 Gw9 Lw9 Sw9 Hw9 lw9 nw9 aw9 bw9 cw9 dw9 fw9 hw9 => ?_)
    have sw9 := zSe_l (q := q) (l := l) lw9; have qw9 := zLf_k lw9 (by decide) hq3; have xw9 := zLf_n lw9 hLN
    show zB _ _ _ _ _ _ [] _ _
    refine z_iload_n (pc2 := 44) rfl rfl rfl ?_
    refine z_aload_n (pc2 := 45) rfl rfl rfl ?_
    refine z_getI (pc2 := 48) 0 rfl rfl rfl rfl rfl t56 ?_
    intro v10 e10 r10 k10
    clear e10
    clear k10
    refine z_isub (pc2 := 49) rfl rfl ?_
    refine z_istoreN (pc2 := 51) rfl rfl rfl (fun u11 u11r => ?_)
    refine z_lv (lv2 := [(8, _), (7, _), (6, _), (0, _), (1, _), (2, _), (3, _), (4, _), (5, _)]) ⟨rfl, rfl, rfl, rfl, rfl, rfl, rfl, rfl, rfl, trivial⟩ ?_
    refine z_aload_n (pc2 := 52) rfl rfl rfl ?_
    refine z_iload_n (pc2 := 53) rfl rfl rfl ?_
    refine z_iload (pc2 := 55) rfl rfl rfl ?_
    refine z_iload (pc2 := 57) rfl rfl rfl ?_
    refine z_callV (y2 := 232) (as := [_, _, _]) (rest := []) (pc2 := 60) rfl rfl rfl rfl t56 rfl ?_
    refine m_badness hT (by omega) (by omega) (fun g12 => ?_)
    show zB _ _ _ _ _ _ [_] _ _
    refine z_lstore (lv2 := [(9, _), (8, _), (7, _), (6, _), (0, _), (1, _), (2, _), (3, _), (4, _), (5, _)]) (pc2 := 62) rfl rfl rfl rfl ?_
    refine z_aload_n (pc2 := 63) rfl rfl rfl ?_
    refine z_iload_n (pc2 := 64) rfl rfl rfl ?_
    refine z_iload (pc2 := 66) rfl rfl rfl ?_
    refine z_iload (pc2 := 68) rfl rfl rfl ?_
    refine z_callV (y2 := 237) (as := [_, _, _]) (rest := []) (pc2 := 71) rfl rfl rfl rfl t56 rfl ?_
    refine m_justified (L2 := Lw9) (S := Sw9) (H := Hw9) hT (by omega) (by omega) (by omega) (by omega) (by omega) (by omega) aw9 bw9 cw9 (fun w13 Iw13 Gw13 w13r jw13 => ?_)
    have sw13 := zSe_tr sw9 (zSe_j jw13); have qw13 := zJu_k jw13 (by decide) qw9; have xw13 := zJu_n jw13 xw9; have yw13 := zJu_k jw13 (by decide) aw9
    show zB _ _ _ _ _ _ [_] _ _
    refine z_istore (lv2 := [(11, _), (9, _), (8, _), (7, _), (6, _), (0, _), (1, _), (2, _), (3, _), (4, _), (5, _)]) (pc2 := 73) rfl rfl rfl rfl ?_
    refine z_aload_n (pc2 := 74) rfl rfl rfl ?_
    refine z_aload_n (pc2 := 75) rfl rfl rfl ?_
    refine z_getP (pc2 := 78) rfl rfl rfl rfl t56 ?_
    intro p14 p14e p14k; replace p14k : p14 = some 57 := p14k; clear p14e; subst p14k
    refine z_aload_n (pc2 := 79) rfl rfl rfl ?_
    refine z_callV (y2 := 162) (as := []) (rest := [_, _]) (pc2 := 82) rfl rfl rfl rfl t56 rfl ?_
    refine z_inl ?_
    refine z_lv (lv2 := [(0, _)]) ⟨rfl, trivial⟩ ?_
    refine z_ldc (56100) (pc2 := 2) rfl rfl rfl ?_
    refine z_aload_n (pc2 := 3) rfl rfl rfl ?_
    refine z_getI (pc2 := 6) 0 rfl rfl rfl rfl rfl t56 ?_
    intro v15 e15 r15 k15
    replace k15 : (0 : Int) ≤ v15 ∧ v15 ≤ 1 := k15; clear r15
    replace e15 : q = v15 := by rw [e15]; first | exact qw13 | exact Eq.symm qw13 | (simp [zU]; first | done | exact qw13 | exact Eq.symm qw13 | omega)
    subst e15
    refine z_imul (pc2 := 7) rfl rfl ?_
    refine z_iret rfl rfl ?_
    show zB _ _ _ _ _ _ [_, _, _] _ _
    refine z_sipush (pc2 := 85) rfl rfl (by decide) ?_
    refine z_iadd (pc2 := 86) rfl rfl ?_
    refine z_iald (pc2 := 87) rfl rfl t57 (by omega) (by omega) (by decide) ?_
    intro v16 e16 r16 k16
    replace k16 := ok_lines k16 (by omega); clear r16
    replace e16 : l = v16 := by rw [e16]; first | exact xw13 | exact Eq.symm xw13 | (simp [zU]; first | done | exact xw13 | exact Eq.symm xw13 | omega)
    subst e16
    refine z_callV (y2 := 238) (as := [_]) (rest := []) (pc2 := 90) rfl rfl rfl rfl t56 rfl ?_
    refine z_inl ?_
    refine z_lv (lv2 := [(0, _), (1, _)]) ⟨rfl, rfl, trivial⟩ ?_
    refine z_aload_n (pc2 := 1) rfl rfl rfl ?_
    refine z_callV (y2 := 162) (as := []) (rest := []) (pc2 := 4) rfl rfl rfl rfl t56 rfl ?_
    refine z_inl ?_
    refine z_lv (lv2 := [(0, _)]) ⟨rfl, trivial⟩ ?_
    refine z_ldc (56100) (pc2 := 2) rfl rfl rfl ?_
    refine z_aload_n (pc2 := 3) rfl rfl rfl ?_
    refine z_getI (pc2 := 6) 0 rfl rfl rfl rfl rfl t56 ?_
    intro v17 e17 r17 k17
    replace k17 : (0 : Int) ≤ v17 ∧ v17 ≤ 1 := k17; clear r17
    replace e17 : q = v17 := by rw [e17]; first | exact qw13 | exact Eq.symm qw13 | (simp [zU]; first | done | exact qw13 | exact Eq.symm qw13 | omega)
    subst e17
    refine z_imul (pc2 := 7) rfl rfl ?_
    refine z_iret rfl rfl ?_
    show zB _ _ _ _ _ _ [_] _ _
    refine z_sipush (pc2 := 7) rfl rfl (by decide) ?_
    refine z_iadd (pc2 := 8) rfl rfl ?_
    refine z_bipush (pc2 := 10) rfl rfl (by decide) ?_
    refine z_iload_n (pc2 := 11) rfl rfl rfl ?_
    refine z_imul (pc2 := 12) rfl rfl ?_
    refine z_iadd (pc2 := 13) rfl rfl ?_
    refine z_iret rfl rfl ?_
    show zB _ _ _ _ _ _ [_] _ _
    refine z_istore (lv2 := [(12, _), (11, _), (9, _), (8, _), (7, _), (6, _), (0, _), (1, _), (2, _), (3, _), (4, _), (5, _)]) (pc2 := 92) rfl rfl rfl rfl ?_
    refine z_aload_n (pc2 := 93) rfl rfl rfl ?_
    refine z_getP (pc2 := 96) rfl rfl rfl rfl t56 ?_
    intro p18 p18e p18k; replace p18k : p18 = some 57 := p18k; clear p18e; subst p18k
    refine z_iload (pc2 := 98) rfl rfl rfl ?_
    refine z_iconst (pc2 := 99) rfl rfl ?_
    refine z_iadd (pc2 := 100) rfl rfl ?_
    refine z_iload_n (pc2 := 101) rfl rfl rfl ?_
    refine z_iast (pc2 := 102) rfl rfl t57 (by omega) (by omega) (by decide) (by omega) (st_lany (by omega)) ?_
    refine z_aload_n (pc2 := 103) rfl rfl rfl ?_
    refine z_getP (pc2 := 106) rfl rfl rfl rfl t56 ?_
    intro p19 p19e p19k; replace p19k : p19 = some 57 := p19k; clear p19e; subst p19k
    refine z_iload (pc2 := 108) rfl rfl rfl ?_
    refine z_iconst (pc2 := 109) rfl rfl ?_
    refine z_iadd (pc2 := 110) rfl rfl ?_
    refine z_iload_n (pc2 := 111) rfl rfl rfl ?_
    refine z_iast (pc2 := 112) rfl rfl t57 (by omega) (by omega) (by decide) (by omega) (st_lfount (by omega) (by omega)) ?_
    refine z_aload_n (pc2 := 113) rfl rfl rfl ?_
    refine z_getP (pc2 := 116) rfl rfl rfl rfl t56 ?_
    intro p20 p20e p20k; replace p20k : p20 = some 57 := p20k; clear p20e; subst p20k
    refine z_iload (pc2 := 118) rfl rfl rfl ?_
    refine z_iconst (pc2 := 119) rfl rfl ?_
    refine z_iadd (pc2 := 120) rfl rfl ?_
    refine z_iload (pc2 := 122) rfl rfl rfl ?_
    refine z_iast (pc2 := 123) rfl rfl t57 (by omega) (by omega) (by decide) (by omega) (st_lany (by omega)) ?_
    refine z_aload_n (pc2 := 124) rfl rfl rfl ?_
    refine z_getP (pc2 := 127) rfl rfl rfl rfl t56 ?_
    intro p21 p21e p21k; replace p21k : p21 = some 57 := p21k; clear p21e; subst p21k
    refine z_iload (pc2 := 129) rfl rfl rfl ?_
    refine z_iconst (pc2 := 130) rfl rfl ?_
    refine z_iadd (pc2 := 131) rfl rfl ?_
    refine z_aload_n (pc2 := 132) rfl rfl rfl ?_
    refine z_getI (pc2 := 135) 0 rfl rfl rfl rfl rfl t56 ?_
    intro v22 e22 r22 k22
    clear e22
    replace k22 : (0 : Int) ≤ v22 ∧ v22 ≤ 42 := k22; clear r22
    refine z_iast (pc2 := 136) rfl rfl t57 (by omega) (by omega) (by decide) (by omega) (st_lsorts (by omega) (by omega)) ?_
    refine z_aload_n (pc2 := 137) rfl rfl rfl ?_
    refine z_getP (pc2 := 140) rfl rfl rfl rfl t56 ?_
    intro p23 p23e p23k; replace p23k : p23 = some 57 := p23k; clear p23e; subst p23k
    refine z_iload (pc2 := 142) rfl rfl rfl ?_
    refine z_iconst (pc2 := 143) rfl rfl ?_
    refine z_iadd (pc2 := 144) rfl rfl ?_
    refine z_aload_n (pc2 := 145) rfl rfl rfl ?_
    refine z_getI (pc2 := 148) 0 rfl rfl rfl rfl rfl t56 ?_
    intro v24 e24 r24 k24
    clear e24
    clear k24
    refine z_iast (pc2 := 149) rfl rfl t57 (by omega) (by omega) (by decide) (by omega) (st_lany (by omega)) ?_
    refine z_aload_n (pc2 := 150) rfl rfl rfl ?_
    refine z_getP (pc2 := 153) rfl rfl rfl rfl t56 ?_
    intro p25 p25e p25k; replace p25k : p25 = some 57 := p25k; clear p25e; subst p25k
    refine z_iload (pc2 := 155) rfl rfl rfl ?_
    refine z_iconst (pc2 := 156) rfl rfl ?_
    refine z_iadd (pc2 := 157) rfl rfl ?_
    refine z_iload_n (pc2 := 158) rfl rfl rfl ?_
    refine z_iast (pc2 := 159) rfl rfl t57 (by omega) (by omega) (by decide) (by omega) (st_lany (by omega)) ?_
    refine z_aload_n (pc2 := 160) rfl rfl rfl ?_
    refine z_getP (pc2 := 163) rfl rfl rfl rfl t56 ?_
    intro p26 p26e p26k; replace p26k : p26 = some 57 := p26k; clear p26e; subst p26k
    refine z_iload (pc2 := 165) rfl rfl rfl ?_
    refine z_bipush (pc2 := 167) rfl rfl (by decide) ?_
    refine z_iadd (pc2 := 168) rfl rfl ?_
    refine z_iload (pc2 := 170) rfl rfl rfl ?_
    refine z_iast (pc2 := 171) rfl rfl t57 (by omega) (by omega) (by decide) (by omega) (st_lany (by omega)) ?_
    refine z_aload_n (pc2 := 172) rfl rfl rfl ?_
    refine z_getP (pc2 := 175) rfl rfl rfl rfl t56 ?_
    intro p27 p27e p27k; replace p27k : p27 = some 57 := p27k; clear p27e; subst p27k
    refine z_iload (pc2 := 177) rfl rfl rfl ?_
    refine z_bipush (pc2 := 179) rfl rfl (by decide) ?_
    refine z_iadd (pc2 := 180) rfl rfl ?_
    refine z_aload_n (pc2 := 181) rfl rfl rfl ?_
    refine z_getI (pc2 := 184) 2 rfl rfl rfl rfl rfl t56 ?_
    intro v28 e28 r28 k28
    clear e28
    replace k28 : (0 : Int) ≤ v28 ∧ v28 ≤ 1 := k28; clear r28
    refine z_if_eq (t := 191) (pc2 := 187) rfl rfl rfl (by omega) (fun c29 => ?_) (fun c29 => ?_)
    ·
      refine z_iconst (pc2 := 192) rfl rfl ?_
      refine z_iast (pc2 := 193) rfl rfl t57 (by omega) (by omega) (by decide) (by omega) (st_lany (by omega)) ?_
      refine z_aload_n (pc2 := 194) rfl rfl rfl ?_
      refine z_getP (pc2 := 197) rfl rfl rfl rfl t56 ?_
      intro p30 p30e p30k; replace p30k : p30 = some 57 := p30k; clear p30e; subst p30k
      refine z_iload (pc2 := 199) rfl rfl rfl ?_
      refine z_bipush (pc2 := 201) rfl rfl (by decide) ?_
      refine z_iadd (pc2 := 202) rfl rfl ?_
      refine z_iload (pc2 := 204) rfl rfl rfl ?_
      refine z_if_eq (t := 211) (pc2 := 207) rfl rfl rfl (by omega) (fun c31 => ?_) (fun c31 => by exfalso; omega)
      refine z_iconst (pc2 := 212) rfl rfl ?_
      refine z_iast (pc2 := 213) rfl rfl t57 (by omega) (by omega) (by decide) (by omega) (st_lany (by omega)) ?_
      refine z_aload_n (pc2 := 214) rfl rfl rfl ?_
      refine z_getP (pc2 := 217) rfl rfl rfl rfl t56 ?_
      intro p32 p32e p32k; replace p32k : p32 = some 57 := p32k; clear p32e; subst p32k
      refine z_iload (pc2 := 219) rfl rfl rfl ?_
      refine z_bipush (pc2 := 221) rfl rfl (by decide) ?_
      refine z_iadd (pc2 := 222) rfl rfl ?_
      refine z_lload (pc2 := 224) rfl rfl rfl ?_
      refine z_l2i (pc2 := 225) rfl rfl ?_
      refine z_iast_any (pc2 := 226) rfl rfl t57 (by omega) (by omega) (by decide) (fun _ _ => st_lany (by omega)) (fun u33 u33r => ?_); clear u33r
      refine z_aload_n (pc2 := 227) rfl rfl rfl ?_
      refine z_getP (pc2 := 230) rfl rfl rfl rfl t56 ?_
      intro p34 p34e p34k; replace p34k : p34 = some 57 := p34k; clear p34e; subst p34k
      refine z_iload (pc2 := 232) rfl rfl rfl ?_
      refine z_bipush (pc2 := 234) rfl rfl (by decide) ?_
      refine z_iadd (pc2 := 235) rfl rfl ?_
      refine z_aload_n (pc2 := 236) rfl rfl rfl ?_
      refine z_getI (pc2 := 239) 0 rfl rfl rfl rfl rfl t56 ?_
      intro v35 e35 r35 k35
      clear e35
      replace k35 : (0 : Int) ≤ v35 ∧ v35 ≤ 12 := k35; clear r35
      refine z_iast (pc2 := 240) rfl rfl t57 (by omega) (by omega) (by decide) (by omega) (st_lnotes (by omega) (by omega)) ?_
      refine z_iconst (pc2 := 241) rfl rfl ?_
      refine z_istore (lv2 := [(13, _), (12, _), (11, _), (9, _), (8, _), (7, _), (6, _), (0, _), (1, _), (2, _), (3, _), (4, _), (5, _)]) (pc2 := 243) rfl rfl rfl rfl ?_
      refine z_lv (lv2 := [(0, _), (12, _), (13, _)]) ⟨rfl, rfl, rfl, trivial⟩ ?_
      exact l_sets1 hT (by omega) (by omega) (by omega) (by omega) rfl hK _ _ _ _ _ (by repeat (first | exact yw13 | refine (congrFun (zU_row _ _ _ (by decide)) _).trans ?_)) (by omega) (by omega) (by repeat (first | exact zSf_in (by omega) (by omega) sw13 xw13 qw13 (by omega) (by omega) | refine zSf_u (by omega) (by omega) ?_ (by omega))) (Nat.lt_succ_self _)
    ·
      refine z_iconst (pc2 := 188) rfl rfl ?_
      refine z_goto (pc2 := 192) rfl rfl ?_
      refine z_iast (pc2 := 193) rfl rfl t57 (by omega) (by omega) (by decide) (by omega) (st_lany (by omega)) ?_
      refine z_aload_n (pc2 := 194) rfl rfl rfl ?_
      refine z_getP (pc2 := 197) rfl rfl rfl rfl t56 ?_
      intro p36 p36e p36k; replace p36k : p36 = some 57 := p36k; clear p36e; subst p36k
      refine z_iload (pc2 := 199) rfl rfl rfl ?_
      refine z_bipush (pc2 := 201) rfl rfl (by decide) ?_
      refine z_iadd (pc2 := 202) rfl rfl ?_
      refine z_iload (pc2 := 204) rfl rfl rfl ?_
      refine z_if_eq (t := 211) (pc2 := 207) rfl rfl rfl (by omega) (fun c37 => ?_) (fun c37 => by exfalso; omega)
      refine z_iconst (pc2 := 212) rfl rfl ?_
      refine z_iast (pc2 := 213) rfl rfl t57 (by omega) (by omega) (by decide) (by omega) (st_lany (by omega)) ?_
      refine z_aload_n (pc2 := 214) rfl rfl rfl ?_
      refine z_getP (pc2 := 217) rfl rfl rfl rfl t56 ?_
      intro p38 p38e p38k; replace p38k : p38 = some 57 := p38k; clear p38e; subst p38k
      refine z_iload (pc2 := 219) rfl rfl rfl ?_
      refine z_bipush (pc2 := 221) rfl rfl (by decide) ?_
      refine z_iadd (pc2 := 222) rfl rfl ?_
      refine z_lload (pc2 := 224) rfl rfl rfl ?_
      refine z_l2i (pc2 := 225) rfl rfl ?_
      refine z_iast_any (pc2 := 226) rfl rfl t57 (by omega) (by omega) (by decide) (fun _ _ => st_lany (by omega)) (fun u39 u39r => ?_); clear u39r
      refine z_aload_n (pc2 := 227) rfl rfl rfl ?_
      refine z_getP (pc2 := 230) rfl rfl rfl rfl t56 ?_
      intro p40 p40e p40k; replace p40k : p40 = some 57 := p40k; clear p40e; subst p40k
      refine z_iload (pc2 := 232) rfl rfl rfl ?_
      refine z_bipush (pc2 := 234) rfl rfl (by decide) ?_
      refine z_iadd (pc2 := 235) rfl rfl ?_
      refine z_aload_n (pc2 := 236) rfl rfl rfl ?_
      refine z_getI (pc2 := 239) 0 rfl rfl rfl rfl rfl t56 ?_
      intro v41 e41 r41 k41
      clear e41
      replace k41 : (0 : Int) ≤ v41 ∧ v41 ≤ 12 := k41; clear r41
      refine z_iast (pc2 := 240) rfl rfl t57 (by omega) (by omega) (by decide) (by omega) (st_lnotes (by omega) (by omega)) ?_
      refine z_iconst (pc2 := 241) rfl rfl ?_
      refine z_istore (lv2 := [(13, _), (12, _), (11, _), (9, _), (8, _), (7, _), (6, _), (0, _), (1, _), (2, _), (3, _), (4, _), (5, _)]) (pc2 := 243) rfl rfl rfl rfl ?_
      refine z_lv (lv2 := [(0, _), (12, _), (13, _)]) ⟨rfl, rfl, rfl, trivial⟩ ?_
      exact l_sets1 hT (by omega) (by omega) (by omega) (by omega) rfl hK _ _ _ _ _ (by repeat (first | exact yw13 | refine (congrFun (zU_row _ _ _ (by decide)) _).trans ?_)) (by omega) (by omega) (by repeat (first | exact zSf_in (by omega) (by omega) sw13 xw13 qw13 (by omega) (by omega) | refine zSf_u (by omega) (by omega) ?_ (by omega))) (Nat.lt_succ_self _)
  ·
    refine z_iconst (pc2 := 19) rfl rfl ?_
    refine z_goto (pc2 := 23) rfl rfl ?_
    refine z_istore (lv2 := [(7, _), (6, _), (0, _), (1, _), (2, _), (3, _), (4, _), (5, _)]) (pc2 := 25) rfl rfl rfl rfl ?_
    refine z_aload_n (pc2 := 26) rfl rfl rfl ?_
    refine z_aload_n (pc2 := 27) rfl rfl rfl ?_
    refine z_getP (pc2 := 30) rfl rfl rfl rfl t56 ?_
    intro p42 p42e p42k; replace p42k : p42 = some 84 := p42k; clear p42e; subst p42k
    refine z_iload (pc2 := 32) rfl rfl rfl ?_
    refine z_iald (pc2 := 33) rfl rfl t84 (by omega) (by omega) (by decide) ?_
    intro v43 e43 r43 k43
    clear e43
    replace k43 : (0 : Int) ≤ v43 ∧ v43 ≤ 40 := k43; clear r43
    refine z_aload_n (pc2 := 34) rfl rfl rfl ?_
    refine z_getP (pc2 := 37) rfl rfl rfl rfl t56 ?_
    intro p44 p44e p44k; replace p44k : p44 = some 84 := p44k; clear p44e; subst p44k
    refine z_iload (pc2 := 39) rfl rfl rfl ?_
    refine z_iald (pc2 := 40) rfl rfl t84 (by omega) (by omega) (by decide) ?_
    intro v45 e45 r45 k45
    clear e45
    replace k45 : (0 : Int) ≤ v45 ∧ v45 ≤ 40 := k45; clear r45
    refine z_callV (y2 := 230) (as := [_, _]) (rest := []) (pc2 := 43) rfl rfl rfl rfl t56 rfl ?_
    refine m_lineOf hT (by omega) (by omega) (zRp_tok hrl) (fun Iw46 Gw46 Lw46 Sw46 Hw46 lw46 nw46 aw46 bw46 cw46 dw46 fw46 hw46 => ?_)
    have sw46 := zSe_l (q := q) (l := l) lw46; have qw46 := zLf_k lw46 (by decide) hq3; have xw46 := zLf_n lw46 hLN
    show zB _ _ _ _ _ _ [] _ _
    refine z_iload_n (pc2 := 44) rfl rfl rfl ?_
    refine z_aload_n (pc2 := 45) rfl rfl rfl ?_
    refine z_getI (pc2 := 48) 0 rfl rfl rfl rfl rfl t56 ?_
    intro v47 e47 r47 k47
    clear e47
    clear k47
    refine z_isub (pc2 := 49) rfl rfl ?_
    refine z_istoreN (pc2 := 51) rfl rfl rfl (fun u48 u48r => ?_)
    refine z_lv (lv2 := [(8, _), (7, _), (6, _), (0, _), (1, _), (2, _), (3, _), (4, _), (5, _)]) ⟨rfl, rfl, rfl, rfl, rfl, rfl, rfl, rfl, rfl, trivial⟩ ?_
    refine z_aload_n (pc2 := 52) rfl rfl rfl ?_
    refine z_iload_n (pc2 := 53) rfl rfl rfl ?_
    refine z_iload (pc2 := 55) rfl rfl rfl ?_
    refine z_iload (pc2 := 57) rfl rfl rfl ?_
    refine z_callV (y2 := 232) (as := [_, _, _]) (rest := []) (pc2 := 60) rfl rfl rfl rfl t56 rfl ?_
    refine m_badness hT (by omega) (by omega) (fun g49 => ?_)
    show zB _ _ _ _ _ _ [_] _ _
    refine z_lstore (lv2 := [(9, _), (8, _), (7, _), (6, _), (0, _), (1, _), (2, _), (3, _), (4, _), (5, _)]) (pc2 := 62) rfl rfl rfl rfl ?_
    refine z_aload_n (pc2 := 63) rfl rfl rfl ?_
    refine z_iload_n (pc2 := 64) rfl rfl rfl ?_
    refine z_iload (pc2 := 66) rfl rfl rfl ?_
    refine z_iload (pc2 := 68) rfl rfl rfl ?_
    refine z_callV (y2 := 237) (as := [_, _, _]) (rest := []) (pc2 := 71) rfl rfl rfl rfl t56 rfl ?_
    refine m_justified (L2 := Lw46) (S := Sw46) (H := Hw46) hT (by omega) (by omega) (by omega) (by omega) (by omega) (by omega) aw46 bw46 cw46 (fun w50 Iw50 Gw50 w50r jw50 => ?_)
    have sw50 := zSe_tr sw46 (zSe_j jw50); have qw50 := zJu_k jw50 (by decide) qw46; have xw50 := zJu_n jw50 xw46; have yw50 := zJu_k jw50 (by decide) aw46
    show zB _ _ _ _ _ _ [_] _ _
    refine z_istore (lv2 := [(11, _), (9, _), (8, _), (7, _), (6, _), (0, _), (1, _), (2, _), (3, _), (4, _), (5, _)]) (pc2 := 73) rfl rfl rfl rfl ?_
    refine z_aload_n (pc2 := 74) rfl rfl rfl ?_
    refine z_aload_n (pc2 := 75) rfl rfl rfl ?_
    refine z_getP (pc2 := 78) rfl rfl rfl rfl t56 ?_
    intro p51 p51e p51k; replace p51k : p51 = some 57 := p51k; clear p51e; subst p51k
    refine z_aload_n (pc2 := 79) rfl rfl rfl ?_
    refine z_callV (y2 := 162) (as := []) (rest := [_, _]) (pc2 := 82) rfl rfl rfl rfl t56 rfl ?_
    refine z_inl ?_
    refine z_lv (lv2 := [(0, _)]) ⟨rfl, trivial⟩ ?_
    refine z_ldc (56100) (pc2 := 2) rfl rfl rfl ?_
    refine z_aload_n (pc2 := 3) rfl rfl rfl ?_
    refine z_getI (pc2 := 6) 0 rfl rfl rfl rfl rfl t56 ?_
    intro v52 e52 r52 k52
    replace k52 : (0 : Int) ≤ v52 ∧ v52 ≤ 1 := k52; clear r52
    replace e52 : q = v52 := by rw [e52]; first | exact qw50 | exact Eq.symm qw50 | (simp [zU]; first | done | exact qw50 | exact Eq.symm qw50 | omega)
    subst e52
    refine z_imul (pc2 := 7) rfl rfl ?_
    refine z_iret rfl rfl ?_
    show zB _ _ _ _ _ _ [_, _, _] _ _
    refine z_sipush (pc2 := 85) rfl rfl (by decide) ?_
    refine z_iadd (pc2 := 86) rfl rfl ?_
    refine z_iald (pc2 := 87) rfl rfl t57 (by omega) (by omega) (by decide) ?_
    intro v53 e53 r53 k53
    replace k53 := ok_lines k53 (by omega); clear r53
    replace e53 : l = v53 := by rw [e53]; first | exact xw50 | exact Eq.symm xw50 | (simp [zU]; first | done | exact xw50 | exact Eq.symm xw50 | omega)
    subst e53
    refine z_callV (y2 := 238) (as := [_]) (rest := []) (pc2 := 90) rfl rfl rfl rfl t56 rfl ?_
    refine z_inl ?_
    refine z_lv (lv2 := [(0, _), (1, _)]) ⟨rfl, rfl, trivial⟩ ?_
    refine z_aload_n (pc2 := 1) rfl rfl rfl ?_
    refine z_callV (y2 := 162) (as := []) (rest := []) (pc2 := 4) rfl rfl rfl rfl t56 rfl ?_
    refine z_inl ?_
    refine z_lv (lv2 := [(0, _)]) ⟨rfl, trivial⟩ ?_
    refine z_ldc (56100) (pc2 := 2) rfl rfl rfl ?_
    refine z_aload_n (pc2 := 3) rfl rfl rfl ?_
    refine z_getI (pc2 := 6) 0 rfl rfl rfl rfl rfl t56 ?_
    intro v54 e54 r54 k54
    replace k54 : (0 : Int) ≤ v54 ∧ v54 ≤ 1 := k54; clear r54
    replace e54 : q = v54 := by rw [e54]; first | exact qw50 | exact Eq.symm qw50 | (simp [zU]; first | done | exact qw50 | exact Eq.symm qw50 | omega)
    subst e54
    refine z_imul (pc2 := 7) rfl rfl ?_
    refine z_iret rfl rfl ?_
    show zB _ _ _ _ _ _ [_] _ _
    refine z_sipush (pc2 := 7) rfl rfl (by decide) ?_
    refine z_iadd (pc2 := 8) rfl rfl ?_
    refine z_bipush (pc2 := 10) rfl rfl (by decide) ?_
    refine z_iload_n (pc2 := 11) rfl rfl rfl ?_
    refine z_imul (pc2 := 12) rfl rfl ?_
    refine z_iadd (pc2 := 13) rfl rfl ?_
    refine z_iret rfl rfl ?_
    show zB _ _ _ _ _ _ [_] _ _
    refine z_istore (lv2 := [(12, _), (11, _), (9, _), (8, _), (7, _), (6, _), (0, _), (1, _), (2, _), (3, _), (4, _), (5, _)]) (pc2 := 92) rfl rfl rfl rfl ?_
    refine z_aload_n (pc2 := 93) rfl rfl rfl ?_
    refine z_getP (pc2 := 96) rfl rfl rfl rfl t56 ?_
    intro p55 p55e p55k; replace p55k : p55 = some 57 := p55k; clear p55e; subst p55k
    refine z_iload (pc2 := 98) rfl rfl rfl ?_
    refine z_iconst (pc2 := 99) rfl rfl ?_
    refine z_iadd (pc2 := 100) rfl rfl ?_
    refine z_iload_n (pc2 := 101) rfl rfl rfl ?_
    refine z_iast (pc2 := 102) rfl rfl t57 (by omega) (by omega) (by decide) (by omega) (st_lany (by omega)) ?_
    refine z_aload_n (pc2 := 103) rfl rfl rfl ?_
    refine z_getP (pc2 := 106) rfl rfl rfl rfl t56 ?_
    intro p56 p56e p56k; replace p56k : p56 = some 57 := p56k; clear p56e; subst p56k
    refine z_iload (pc2 := 108) rfl rfl rfl ?_
    refine z_iconst (pc2 := 109) rfl rfl ?_
    refine z_iadd (pc2 := 110) rfl rfl ?_
    refine z_iload_n (pc2 := 111) rfl rfl rfl ?_
    refine z_iast (pc2 := 112) rfl rfl t57 (by omega) (by omega) (by decide) (by omega) (st_lfount (by omega) (by omega)) ?_
    refine z_aload_n (pc2 := 113) rfl rfl rfl ?_
    refine z_getP (pc2 := 116) rfl rfl rfl rfl t56 ?_
    intro p57 p57e p57k; replace p57k : p57 = some 57 := p57k; clear p57e; subst p57k
    refine z_iload (pc2 := 118) rfl rfl rfl ?_
    refine z_iconst (pc2 := 119) rfl rfl ?_
    refine z_iadd (pc2 := 120) rfl rfl ?_
    refine z_iload (pc2 := 122) rfl rfl rfl ?_
    refine z_iast (pc2 := 123) rfl rfl t57 (by omega) (by omega) (by decide) (by omega) (st_lany (by omega)) ?_
    refine z_aload_n (pc2 := 124) rfl rfl rfl ?_
    refine z_getP (pc2 := 127) rfl rfl rfl rfl t56 ?_
    intro p58 p58e p58k; replace p58k : p58 = some 57 := p58k; clear p58e; subst p58k
    refine z_iload (pc2 := 129) rfl rfl rfl ?_
    refine z_iconst (pc2 := 130) rfl rfl ?_
    refine z_iadd (pc2 := 131) rfl rfl ?_
    refine z_aload_n (pc2 := 132) rfl rfl rfl ?_
    refine z_getI (pc2 := 135) 0 rfl rfl rfl rfl rfl t56 ?_
    intro v59 e59 r59 k59
    clear e59
    replace k59 : (0 : Int) ≤ v59 ∧ v59 ≤ 42 := k59; clear r59
    refine z_iast (pc2 := 136) rfl rfl t57 (by omega) (by omega) (by decide) (by omega) (st_lsorts (by omega) (by omega)) ?_
    refine z_aload_n (pc2 := 137) rfl rfl rfl ?_
    refine z_getP (pc2 := 140) rfl rfl rfl rfl t56 ?_
    intro p60 p60e p60k; replace p60k : p60 = some 57 := p60k; clear p60e; subst p60k
    refine z_iload (pc2 := 142) rfl rfl rfl ?_
    refine z_iconst (pc2 := 143) rfl rfl ?_
    refine z_iadd (pc2 := 144) rfl rfl ?_
    refine z_aload_n (pc2 := 145) rfl rfl rfl ?_
    refine z_getI (pc2 := 148) 0 rfl rfl rfl rfl rfl t56 ?_
    intro v61 e61 r61 k61
    clear e61
    clear k61
    refine z_iast (pc2 := 149) rfl rfl t57 (by omega) (by omega) (by decide) (by omega) (st_lany (by omega)) ?_
    refine z_aload_n (pc2 := 150) rfl rfl rfl ?_
    refine z_getP (pc2 := 153) rfl rfl rfl rfl t56 ?_
    intro p62 p62e p62k; replace p62k : p62 = some 57 := p62k; clear p62e; subst p62k
    refine z_iload (pc2 := 155) rfl rfl rfl ?_
    refine z_iconst (pc2 := 156) rfl rfl ?_
    refine z_iadd (pc2 := 157) rfl rfl ?_
    refine z_iload_n (pc2 := 158) rfl rfl rfl ?_
    refine z_iast (pc2 := 159) rfl rfl t57 (by omega) (by omega) (by decide) (by omega) (st_lany (by omega)) ?_
    refine z_aload_n (pc2 := 160) rfl rfl rfl ?_
    refine z_getP (pc2 := 163) rfl rfl rfl rfl t56 ?_
    intro p63 p63e p63k; replace p63k : p63 = some 57 := p63k; clear p63e; subst p63k
    refine z_iload (pc2 := 165) rfl rfl rfl ?_
    refine z_bipush (pc2 := 167) rfl rfl (by decide) ?_
    refine z_iadd (pc2 := 168) rfl rfl ?_
    refine z_iload (pc2 := 170) rfl rfl rfl ?_
    refine z_iast (pc2 := 171) rfl rfl t57 (by omega) (by omega) (by decide) (by omega) (st_lany (by omega)) ?_
    refine z_aload_n (pc2 := 172) rfl rfl rfl ?_
    refine z_getP (pc2 := 175) rfl rfl rfl rfl t56 ?_
    intro p64 p64e p64k; replace p64k : p64 = some 57 := p64k; clear p64e; subst p64k
    refine z_iload (pc2 := 177) rfl rfl rfl ?_
    refine z_bipush (pc2 := 179) rfl rfl (by decide) ?_
    refine z_iadd (pc2 := 180) rfl rfl ?_
    refine z_aload_n (pc2 := 181) rfl rfl rfl ?_
    refine z_getI (pc2 := 184) 2 rfl rfl rfl rfl rfl t56 ?_
    intro v65 e65 r65 k65
    clear e65
    replace k65 : (0 : Int) ≤ v65 ∧ v65 ≤ 1 := k65; clear r65
    refine z_if_eq (t := 191) (pc2 := 187) rfl rfl rfl (by omega) (fun c66 => ?_) (fun c66 => ?_)
    ·
      refine z_iconst (pc2 := 192) rfl rfl ?_
      refine z_iast (pc2 := 193) rfl rfl t57 (by omega) (by omega) (by decide) (by omega) (st_lany (by omega)) ?_
      refine z_aload_n (pc2 := 194) rfl rfl rfl ?_
      refine z_getP (pc2 := 197) rfl rfl rfl rfl t56 ?_
      intro p67 p67e p67k; replace p67k : p67 = some 57 := p67k; clear p67e; subst p67k
      refine z_iload (pc2 := 199) rfl rfl rfl ?_
      refine z_bipush (pc2 := 201) rfl rfl (by decide) ?_
      refine z_iadd (pc2 := 202) rfl rfl ?_
      refine z_iload (pc2 := 204) rfl rfl rfl ?_
      refine z_if_eq (t := 211) (pc2 := 207) rfl rfl rfl (by omega) (fun c68 => by exfalso; omega) (fun c68 => ?_)
      refine z_iconst (pc2 := 208) rfl rfl ?_
      refine z_goto (pc2 := 212) rfl rfl ?_
      refine z_iast (pc2 := 213) rfl rfl t57 (by omega) (by omega) (by decide) (by omega) (st_lany (by omega)) ?_
      refine z_aload_n (pc2 := 214) rfl rfl rfl ?_
      refine z_getP (pc2 := 217) rfl rfl rfl rfl t56 ?_
      intro p69 p69e p69k; replace p69k : p69 = some 57 := p69k; clear p69e; subst p69k
      refine z_iload (pc2 := 219) rfl rfl rfl ?_
      refine z_bipush (pc2 := 221) rfl rfl (by decide) ?_
      refine z_iadd (pc2 := 222) rfl rfl ?_
      refine z_lload (pc2 := 224) rfl rfl rfl ?_
      refine z_l2i (pc2 := 225) rfl rfl ?_
      refine z_iast_any (pc2 := 226) rfl rfl t57 (by omega) (by omega) (by decide) (fun _ _ => st_lany (by omega)) (fun u70 u70r => ?_); clear u70r
      refine z_aload_n (pc2 := 227) rfl rfl rfl ?_
      refine z_getP (pc2 := 230) rfl rfl rfl rfl t56 ?_
      intro p71 p71e p71k; replace p71k : p71 = some 57 := p71k; clear p71e; subst p71k
      refine z_iload (pc2 := 232) rfl rfl rfl ?_
      refine z_bipush (pc2 := 234) rfl rfl (by decide) ?_
      refine z_iadd (pc2 := 235) rfl rfl ?_
      refine z_aload_n (pc2 := 236) rfl rfl rfl ?_
      refine z_getI (pc2 := 239) 0 rfl rfl rfl rfl rfl t56 ?_
      intro v72 e72 r72 k72
      clear e72
      replace k72 : (0 : Int) ≤ v72 ∧ v72 ≤ 12 := k72; clear r72
      refine z_iast (pc2 := 240) rfl rfl t57 (by omega) (by omega) (by decide) (by omega) (st_lnotes (by omega) (by omega)) ?_
      refine z_iconst (pc2 := 241) rfl rfl ?_
      refine z_istore (lv2 := [(13, _), (12, _), (11, _), (9, _), (8, _), (7, _), (6, _), (0, _), (1, _), (2, _), (3, _), (4, _), (5, _)]) (pc2 := 243) rfl rfl rfl rfl ?_
      refine z_lv (lv2 := [(0, _), (12, _), (13, _)]) ⟨rfl, rfl, rfl, trivial⟩ ?_
      exact l_sets1 hT (by omega) (by omega) (by omega) (by omega) rfl hK _ _ _ _ _ (by repeat (first | exact yw50 | refine (congrFun (zU_row _ _ _ (by decide)) _).trans ?_)) (by omega) (by omega) (by repeat (first | exact zSf_in (by omega) (by omega) sw50 xw50 qw50 (by omega) (by omega) | refine zSf_u (by omega) (by omega) ?_ (by omega))) (Nat.lt_succ_self _)
    ·
      refine z_iconst (pc2 := 188) rfl rfl ?_
      refine z_goto (pc2 := 192) rfl rfl ?_
      refine z_iast (pc2 := 193) rfl rfl t57 (by omega) (by omega) (by decide) (by omega) (st_lany (by omega)) ?_
      refine z_aload_n (pc2 := 194) rfl rfl rfl ?_
      refine z_getP (pc2 := 197) rfl rfl rfl rfl t56 ?_
      intro p73 p73e p73k; replace p73k : p73 = some 57 := p73k; clear p73e; subst p73k
      refine z_iload (pc2 := 199) rfl rfl rfl ?_
      refine z_bipush (pc2 := 201) rfl rfl (by decide) ?_
      refine z_iadd (pc2 := 202) rfl rfl ?_
      refine z_iload (pc2 := 204) rfl rfl rfl ?_
      refine z_if_eq (t := 211) (pc2 := 207) rfl rfl rfl (by omega) (fun c74 => by exfalso; omega) (fun c74 => ?_)
      refine z_iconst (pc2 := 208) rfl rfl ?_
      refine z_goto (pc2 := 212) rfl rfl ?_
      refine z_iast (pc2 := 213) rfl rfl t57 (by omega) (by omega) (by decide) (by omega) (st_lany (by omega)) ?_
      refine z_aload_n (pc2 := 214) rfl rfl rfl ?_
      refine z_getP (pc2 := 217) rfl rfl rfl rfl t56 ?_
      intro p75 p75e p75k; replace p75k : p75 = some 57 := p75k; clear p75e; subst p75k
      refine z_iload (pc2 := 219) rfl rfl rfl ?_
      refine z_bipush (pc2 := 221) rfl rfl (by decide) ?_
      refine z_iadd (pc2 := 222) rfl rfl ?_
      refine z_lload (pc2 := 224) rfl rfl rfl ?_
      refine z_l2i (pc2 := 225) rfl rfl ?_
      refine z_iast_any (pc2 := 226) rfl rfl t57 (by omega) (by omega) (by decide) (fun _ _ => st_lany (by omega)) (fun u76 u76r => ?_); clear u76r
      refine z_aload_n (pc2 := 227) rfl rfl rfl ?_
      refine z_getP (pc2 := 230) rfl rfl rfl rfl t56 ?_
      intro p77 p77e p77k; replace p77k : p77 = some 57 := p77k; clear p77e; subst p77k
      refine z_iload (pc2 := 232) rfl rfl rfl ?_
      refine z_bipush (pc2 := 234) rfl rfl (by decide) ?_
      refine z_iadd (pc2 := 235) rfl rfl ?_
      refine z_aload_n (pc2 := 236) rfl rfl rfl ?_
      refine z_getI (pc2 := 239) 0 rfl rfl rfl rfl rfl t56 ?_
      intro v78 e78 r78 k78
      clear e78
      replace k78 : (0 : Int) ≤ v78 ∧ v78 ≤ 12 := k78; clear r78
      refine z_iast (pc2 := 240) rfl rfl t57 (by omega) (by omega) (by decide) (by omega) (st_lnotes (by omega) (by omega)) ?_
      refine z_iconst (pc2 := 241) rfl rfl ?_
      refine z_istore (lv2 := [(13, _), (12, _), (11, _), (9, _), (8, _), (7, _), (6, _), (0, _), (1, _), (2, _), (3, _), (4, _), (5, _)]) (pc2 := 243) rfl rfl rfl rfl ?_
      refine z_lv (lv2 := [(0, _), (12, _), (13, _)]) ⟨rfl, rfl, rfl, trivial⟩ ?_
      exact l_sets1 hT (by omega) (by omega) (by omega) (by omega) rfl hK _ _ _ _ _ (by repeat (first | exact yw50 | refine (congrFun (zU_row _ _ _ (by decide)) _).trans ?_)) (by omega) (by omega) (by repeat (first | exact zSf_in (by omega) (by omega) sw50 xw50 qw50 (by omega) (by omega) | refine zSf_u (by omega) (by omega) ?_ (by omega))) (Nat.lt_succ_self _)
