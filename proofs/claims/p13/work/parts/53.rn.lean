/-! the reference: setting -/
set_option maxHeartbeats 8000000 in
theorem l_set3 {L : Nat} {xs : Nat → Int32} {n sl : Nat} {T : Nat → zT} {I : Nat → Nat → Int} {P : Nat → Nat → Option Nat} {K : List zV → zH → Prop} {f N q c w : Int} (hT : ∀ a, 56 ≤ a → a ≤ 90 → T a = zFix a) (hf : 0 ≤ f ∧ f ≤ 3) (hN : 1 ≤ N ∧ N ≤ 40) (hq : 0 ≤ q ∧ q ≤ 1) (hc : 0 ≤ c ∧ c ≤ 40) (hw : 0 ≤ w ∧ w ≤ 89) (hcw : c ≤ w) (hK : ∀ e I2 G2, zFr I I2 → K [.inl e] (n, sl, T, I2, P, G2)) (m : Nat) : ∀ (I2 : Nat → Nat → Int) (G2 : Nat → Nat → Int), ∀ (k : Int), 1 ≤ k ∧ k ≤ 41 → zS2 q w N f I I2 → k ≤ c + 1 → (41 - k).toNat < m → zB zMd L xs 240 232 [(0, .inr (.inl (some 56))), (5, .inl c), (6, .inl k)] [] (n, sl, T, I2, P, G2) K := by
  have t56 : T 56 = (1, 12, [1]) := hT 56 (by decide) (by decide)
  have t57 : T 57 = (2, 0, [112200, 1]) := hT 57 (by decide) (by decide)
  induction m with
  | zero => intro I2 G2 k hk hI2 hb3 hm; omega
  | succ m ih =>
    intro I2 G2 k hk hI2 hb3 hm
    refine z_iload (pc2 := 234) rfl rfl rfl ?_
    refine z_iload (pc2 := 236) rfl rfl rfl ?_
    refine z_icmp_gt (t := 275) (pc2 := 239) rfl rfl rfl (by omega) (by omega) (fun c1 => ?_) (fun c1 => ?_)
    ·
      refine z_aload_n (pc2 := 276) rfl rfl rfl ?_
      refine z_getP (pc2 := 279) rfl rfl rfl rfl t56 ?_
      intro p2 p2e p2k; replace p2k : p2 = some 57 := p2k; clear p2e; subst p2k
      refine z_aload_n (pc2 := 280) rfl rfl rfl ?_
      refine z_callV (y2 := 162) (as := []) (rest := [_]) (pc2 := 283) rfl rfl rfl rfl t56 rfl ?_
      refine z_inl ?_
      refine z_lv (lv2 := [(0, _)]) ⟨rfl, trivial⟩ ?_
      refine z_ldc (56100) (pc2 := 2) rfl rfl rfl ?_
      refine z_aload_n (pc2 := 3) rfl rfl rfl ?_
      refine z_getI (pc2 := 6) 0 rfl rfl rfl rfl rfl t56 ?_
      intro v3 e3 r3 k3
      replace k3 : (0 : Int) ≤ v3 ∧ v3 ≤ 1 := k3; clear r3
      replace e3 : q = v3 := by rw [e3]; first | exact hI2.2.2.2.1 | exact Eq.symm hI2.2.2.2.1 | (simp [zU]; first | done | exact hI2.2.2.2.1 | exact Eq.symm hI2.2.2.2.1 | omega)
      subst e3
      refine z_imul (pc2 := 7) rfl rfl ?_
      refine z_iret rfl rfl ?_
      show zB _ _ _ _ _ _ [_, _] _ _
      refine z_sipush (pc2 := 286) rfl rfl (by decide) ?_
      refine z_iadd (pc2 := 287) rfl rfl ?_
      refine z_iconst (pc2 := 288) rfl rfl ?_
      refine z_iast (pc2 := 289) rfl rfl t57 (by omega) (by omega) (by decide) (by omega) (st_lines (by omega) (by omega)) ?_
      refine z_aload_n (pc2 := 290) rfl rfl rfl ?_
      refine z_iload (pc2 := 292) rfl rfl rfl ?_
      refine z_callV (y2 := 158) (as := [_]) (rest := []) (pc2 := 295) rfl rfl rfl rfl t56 rfl ?_
      refine z_inl ?_
      refine z_lv (lv2 := [(0, _), (1, _)]) ⟨rfl, rfl, trivial⟩ ?_
      refine z_aload_n (pc2 := 1) rfl rfl rfl ?_
      refine z_iconst (pc2 := 2) rfl rfl ?_
      refine z_putI (pc2 := 5) rfl rfl rfl rfl rfl rfl t56 (by omega) True.intro ?_
      refine z_iload_n (pc2 := 6) rfl rfl rfl ?_
      refine z_iret rfl rfl ?_
      show zB _ _ _ _ _ _ [_] _ _
      refine z_iret rfl rfl ?_
      exact hK _ _ _ (by repeat (first | exact zS2_end hI2 | refine zFr_f ?_ (by decide)))
    ·
      refine z_aload_n (pc2 := 240) rfl rfl rfl ?_
      refine z_getP (pc2 := 243) rfl rfl rfl rfl t56 ?_
      intro p4 p4e p4k; replace p4k : p4 = some 57 := p4k; clear p4e; subst p4k
      refine z_aload_n (pc2 := 244) rfl rfl rfl ?_
      refine z_aload_n (pc2 := 245) rfl rfl rfl ?_
      refine z_getP (pc2 := 248) rfl rfl rfl rfl t56 ?_
      intro p5 p5e p5k; replace p5k : p5 = some 57 := p5k; clear p5e; subst p5k
      refine z_aload_n (pc2 := 249) rfl rfl rfl ?_
      refine z_callV (y2 := 162) (as := []) (rest := [_, _, _]) (pc2 := 252) rfl rfl rfl rfl t56 rfl ?_
      refine z_inl ?_
      refine z_lv (lv2 := [(0, _)]) ⟨rfl, trivial⟩ ?_
      refine z_ldc (56100) (pc2 := 2) rfl rfl rfl ?_
      refine z_aload_n (pc2 := 3) rfl rfl rfl ?_
      refine z_getI (pc2 := 6) 0 rfl rfl rfl rfl rfl t56 ?_
      intro v6 e6 r6 k6
      replace k6 : (0 : Int) ≤ v6 ∧ v6 ≤ 1 := k6; clear r6
      replace e6 : q = v6 := by rw [e6]; first | exact hI2.2.2.2.1 | exact Eq.symm hI2.2.2.2.1 | (simp [zU]; first | done | exact hI2.2.2.2.1 | exact Eq.symm hI2.2.2.2.1 | omega)
      subst e6
      refine z_imul (pc2 := 7) rfl rfl ?_
      refine z_iret rfl rfl ?_
      show zB _ _ _ _ _ _ [_, _, _, _] _ _
      refine z_sipush (pc2 := 255) rfl rfl (by decide) ?_
      refine z_iadd (pc2 := 256) rfl rfl ?_
      refine z_iald (pc2 := 257) rfl rfl t57 (by omega) (by omega) (by decide) ?_
      intro v7 e7 r7 k7
      replace k7 := ok_lines k7 (by omega); clear r7
      replace e7 : w = v7 := by rw [e7]; first | exact hI2.2.2.2.2.1 | exact Eq.symm hI2.2.2.2.2.1 | (simp [zU]; first | done | exact hI2.2.2.2.2.1 | exact Eq.symm hI2.2.2.2.2.1 | omega)
      subst e7
      refine z_iload (pc2 := 259) rfl rfl rfl ?_
      refine z_isub (pc2 := 260) rfl rfl ?_
      refine z_callV (y2 := 238) (as := [_]) (rest := [_]) (pc2 := 263) rfl rfl rfl rfl t56 rfl ?_
      refine z_inl ?_
      refine z_lv (lv2 := [(0, _), (1, _)]) ⟨rfl, rfl, trivial⟩ ?_
      refine z_aload_n (pc2 := 1) rfl rfl rfl ?_
      refine z_callV (y2 := 162) (as := []) (rest := []) (pc2 := 4) rfl rfl rfl rfl t56 rfl ?_
      refine z_inl ?_
      refine z_lv (lv2 := [(0, _)]) ⟨rfl, trivial⟩ ?_
      refine z_ldc (56100) (pc2 := 2) rfl rfl rfl ?_
      refine z_aload_n (pc2 := 3) rfl rfl rfl ?_
      refine z_getI (pc2 := 6) 0 rfl rfl rfl rfl rfl t56 ?_
      intro v8 e8 r8 k8
      replace k8 : (0 : Int) ≤ v8 ∧ v8 ≤ 1 := k8; clear r8
      replace e8 : q = v8 := by rw [e8]; first | exact hI2.2.2.2.1 | exact Eq.symm hI2.2.2.2.1 | (simp [zU]; first | done | exact hI2.2.2.2.1 | exact Eq.symm hI2.2.2.2.1 | omega)
      subst e8
      refine z_imul (pc2 := 7) rfl rfl ?_
      refine z_iret rfl rfl ?_
      show zB _ _ _ _ _ _ [_] _ _
      refine z_sipush (pc2 := 7) rfl rfl (by decide) ?_
      refine z_iadd (pc2 := 8) rfl rfl ?_
      refine z_bipush (pc2 := 10) rfl rfl (by decide) ?_
      refine z_iload_n (pc2 := 11) rfl rfl rfl ?_
      refine z_imul (pc2 := 12) rfl rfl ?_
      refine z_iadd (pc2 := 13) rfl rfl ?_
      refine z_iret rfl rfl ?_
      show zB _ _ _ _ _ _ [_, _] _ _
      refine z_bipush (pc2 := 265) rfl rfl (by decide) ?_
      refine z_iadd (pc2 := 266) rfl rfl ?_
      refine z_iload (pc2 := 268) rfl rfl rfl ?_
      refine z_iast (pc2 := 269) rfl rfl t57 (by omega) (by omega) (by decide) (by omega) (st_lany (by omega)) ?_
      refine z_iinc (lv2 := [(6, _), (0, _), (5, _)]) (pc2 := 272) rfl rfl rfl rfl rfl ?_
      refine z_goto (pc2 := 232) rfl rfl ?_
      refine z_lv (lv2 := [(0, _), (5, _), (6, _)]) ⟨rfl, rfl, rfl, trivial⟩ ?_
      exact ih _ _ _ (by omega) (zS2_m (by omega) hI2 (by omega)) (by omega) (by omega)
set_option maxHeartbeats 8000000 in
theorem l_set2 {L : Nat} {xs : Nat → Int32} {n sl : Nat} {T : Nat → zT} {I : Nat → Nat → Int} {P : Nat → Nat → Option Nat} {K : List zV → zH → Prop} {p f m2 N q l : Int} (hT : ∀ a, 56 ≤ a → a ≤ 90 → T a = zFix a) (hp : 0 ≤ p ∧ p ≤ 11) (hf : 0 ≤ f ∧ f ≤ 3) (hm2 : 0 ≤ m2 ∧ m2 ≤ 300) (hN : 1 ≤ N ∧ N ≤ 40) (hq : 0 ≤ q ∧ q ≤ 1) (hl : 0 ≤ l ∧ l ≤ 49) (hK : ∀ e I2 G2, zFr I I2 → K [.inl e] (n, sl, T, I2, P, G2)) (m : Nat) : ∀ (I2 : Nat → Nat → Int) (G2 : Nat → Nat → Int), ∀ (c a : Int), 0 ≤ c ∧ c ≤ 40 → 0 ≤ a ∧ a ≤ 40 → zS2 q (l + c) N f I I2 → c ≤ a ∧ a ≤ N → (40 - a).toNat < m → zB zMd L xs 240 194 [(0, .inr (.inl (some 56))), (1, .inl p), (2, .inl f), (3, .inl m2), (5, .inl c), (6, .inl a)] [] (n, sl, T, I2, P, G2) K := by
  have t56 : T 56 = (1, 12, [1]) := hT 56 (by decide) (by decide)
  have t85 : T 85 = (2, 0, [42, 11]) := hT 85 (by decide) (by decide)
  induction m with
  | zero => intro I2 G2 c a hc ha hI2 hb3 hm; omega
  | succ m ih =>
    intro I2 G2 c a hc ha hI2 hb3 hm
    refine z_iload (pc2 := 196) rfl rfl rfl ?_
    refine z_aload_n (pc2 := 197) rfl rfl rfl ?_
    refine z_getI (pc2 := 200) 0 rfl rfl rfl rfl rfl t56 ?_
    intro v1 e1 r1 k1
    replace k1 : (0 : Int) ≤ v1 ∧ v1 ≤ 41 := k1; clear r1
    replace e1 : N = v1 := by rw [e1]; first | exact hI2.2.2.1.1 | exact Eq.symm hI2.2.2.1.1 | (simp [zU]; first | done | exact hI2.2.2.1.1 | exact Eq.symm hI2.2.2.1.1 | omega)
    subst e1
    refine z_icmp_ge (t := 229) (pc2 := 203) rfl rfl rfl (by omega) (by omega) (fun c2 => ?_) (fun c2 => ?_)
    ·
      refine z_iconst (pc2 := 230) rfl rfl ?_
      refine z_istore (lv2 := [(6, _), (0, _), (1, _), (2, _), (3, _), (5, _)]) (pc2 := 232) rfl rfl rfl rfl ?_
      refine z_lv (lv2 := [(0, _), (5, _), (6, _)]) ⟨rfl, rfl, rfl, trivial⟩ ?_
      exact l_set3 hT (f := f) (N := N) (q := q) (w := l + c) (by omega) (by omega) (by omega) (by omega) (by omega) (by omega) hK _ _ _ _ (by omega) hI2 (by omega) (Nat.lt_succ_self _)
    ·
      refine z_aload_n (pc2 := 204) rfl rfl rfl ?_
      refine z_iload_n (pc2 := 205) rfl rfl rfl ?_
      refine z_iload_n (pc2 := 206) rfl rfl rfl ?_
      refine z_iload_n (pc2 := 207) rfl rfl rfl ?_
      refine z_iload (pc2 := 209) rfl rfl rfl ?_
      refine z_iload (pc2 := 211) rfl rfl rfl ?_
      refine z_callV (y2 := 239) (as := [_, _, _, _, _]) (rest := []) (pc2 := 214) rfl rfl rfl rfl t56 rfl ?_
      refine m_sets (N := N) (q := q) (l := l + c) hT (by omega) (by omega) (by omega) (by omega) (by omega) (by omega) (by omega) (by omega) hI2.2.2.1 (by omega) hI2.2.1 hI2.2.2.2.1 hI2.2.2.2.2.1 (fun Iw3 Gw3 sw3 xw3 yw3 => ?_)
      have zw3 := zS2_s (by omega) (by omega) (by omega) hI2 sw3 xw3 yw3
      show zB _ _ _ _ _ _ [] _ _
      refine z_iinc (lv2 := [(5, _), (0, _), (1, _), (2, _), (3, _), (6, _)]) (pc2 := 217) rfl rfl rfl rfl rfl ?_
      refine z_aload_n (pc2 := 218) rfl rfl rfl ?_
      refine z_getP (pc2 := 221) rfl rfl rfl rfl t56 ?_
      intro p4 p4e p4k; replace p4k : p4 = some 85 := p4k; clear p4e; subst p4k
      refine z_iload (pc2 := 223) rfl rfl rfl ?_
      refine z_iald (pc2 := 224) rfl rfl t85 (by omega) (by omega) (by decide) ?_
      intro v5 e5 r5 k5
      replace k5 : (-4 : Int) ≤ v5 ∧ v5 ≤ 41 := k5; clear r5
      have nx := zGo_nx zw3.2.2.1 (by assumption) (by omega) (by omega)
      refine z_istore (lv2 := [(6, _), (5, _), (0, _), (1, _), (2, _), (3, _)]) (pc2 := 226) rfl rfl rfl rfl ?_
      refine z_goto (pc2 := 194) rfl rfl ?_
      refine z_lv (lv2 := [(0, _), (1, _), (2, _), (3, _), (5, _), (6, _)]) ⟨rfl, rfl, rfl, rfl, rfl, rfl, trivial⟩ ?_
      exact ih _ _ _ _ (by omega) (by omega) (by rw [← Int.add_assoc]; assumption) (by omega) (by omega)
set_option maxHeartbeats 8000000 in
theorem l_set1 {L : Nat} {xs : Nat → Int32} {n sl : Nat} {T : Nat → zT} {I : Nat → Nat → Int} {P : Nat → Nat → Option Nat} {K : List zV → zH → Prop} {p f m2 N q l : Int} (hT : ∀ a, 56 ≤ a → a ≤ 90 → T a = zFix a) (hp : 0 ≤ p ∧ p ≤ 11) (hf : 0 ≤ f ∧ f ≤ 3) (hm2 : 0 ≤ m2 ∧ m2 ≤ 300) (hN : 1 ≤ N ∧ N ≤ 40) (hq : 0 ≤ q ∧ q ≤ 1) (hl : 0 ≤ l ∧ l ≤ 49) (hrl : zRl I) (hgo : zGo N I) (hq3 : I 56 3 = q) (hLN : I 57 (56100 * q + 164).toNat = l) (hlt : 0 ≤ I 61 (4 * q + f).toNat) (hK : ∀ e I2 G2, zFr I I2 → K [.inl e] (n, sl, T, I2, P, G2)) (m : Nat) : ∀ (I2 : Nat → Nat → Int) (G2 : Nat → Nat → Int), ∀ (k : Int), 0 ≤ k ∧ k ≤ 144 → zFb I I2 → (144 - k).toNat < m → zB zMd L xs 240 152 [(0, .inr (.inl (some 56))), (1, .inl p), (2, .inl f), (3, .inl m2), (5, .inl k)] [] (n, sl, T, I2, P, G2) K := by
  have t56 : T 56 = (1, 12, [1]) := hT 56 (by decide) (by decide)
  have t57 : T 57 = (2, 0, [112200, 1]) := hT 57 (by decide) (by decide)
  have t87 : T 87 = (2, 0, [144, 0]) := hT 87 (by decide) (by decide)
  induction m with
  | zero => intro I2 G2 k hk hI2 hm; omega
  | succ m ih =>
    intro I2 G2 k hk hI2 hm
    refine z_iload (pc2 := 154) rfl rfl rfl ?_
    refine z_sipush (pc2 := 157) rfl rfl (by decide) ?_
    refine z_icmp_ge (t := 188) (pc2 := 160) rfl rfl rfl (by omega) (by omega) (fun c1 => ?_) (fun c1 => ?_)
    ·
      refine z_iconst (pc2 := 189) rfl rfl ?_
      refine z_istore (lv2 := [(5, _), (0, _), (1, _), (2, _), (3, _)]) (pc2 := 191) rfl rfl rfl rfl ?_
      refine z_iconst (pc2 := 192) rfl rfl ?_
      refine z_istore (lv2 := [(6, _), (5, _), (0, _), (1, _), (2, _), (3, _)]) (pc2 := 194) rfl rfl rfl rfl ?_
      refine z_lv (lv2 := [(0, _), (1, _), (2, _), (3, _), (5, _), (6, _)]) ⟨rfl, rfl, rfl, rfl, rfl, rfl, trivial⟩ ?_
      exact l_set2 hT (N := N) (q := q) (l := l) (by omega) (by omega) (by omega) (by omega) (by omega) (by omega) hK _ _ _ _ _ (by omega) (by omega) (by have h5 := zS2_b (by omega) hI2 hrl hgo hq3 hLN hlt; rw [Int.add_zero]; exact h5) (by omega) (Nat.lt_succ_self _)
    ·
      refine z_aload_n (pc2 := 161) rfl rfl rfl ?_
      refine z_getP (pc2 := 164) rfl rfl rfl rfl t56 ?_
      intro p2 p2e p2k; replace p2k : p2 = some 57 := p2k; clear p2e; subst p2k
      refine z_aload_n (pc2 := 165) rfl rfl rfl ?_
      refine z_callV (y2 := 162) (as := []) (rest := [_]) (pc2 := 168) rfl rfl rfl rfl t56 rfl ?_
      refine z_inl ?_
      refine z_lv (lv2 := [(0, _)]) ⟨rfl, trivial⟩ ?_
      refine z_ldc (56100) (pc2 := 2) rfl rfl rfl ?_
      refine z_aload_n (pc2 := 3) rfl rfl rfl ?_
      refine z_getI (pc2 := 6) 0 rfl rfl rfl rfl rfl t56 ?_
      intro v3 e3 r3 k3
      clear e3
      replace k3 : (0 : Int) ≤ v3 ∧ v3 ≤ 1 := k3; clear r3
      refine z_imul (pc2 := 7) rfl rfl ?_
      refine z_iret rfl rfl ?_
      show zB _ _ _ _ _ _ [_, _] _ _
      refine z_iload (pc2 := 170) rfl rfl rfl ?_
      refine z_iadd (pc2 := 171) rfl rfl ?_
      refine z_dup2 (pc2 := 172) rfl rfl rfl rfl ?_
      refine z_iald (pc2 := 173) rfl rfl t57 (by omega) (by omega) (by decide) ?_
      intro v4 e4 r4 k4
      clear e4
      clear k4
      refine z_aload_n (pc2 := 174) rfl rfl rfl ?_
      refine z_getP (pc2 := 177) rfl rfl rfl rfl t56 ?_
      intro p5 p5e p5k; replace p5k : p5 = some 87 := p5k; clear p5e; subst p5k
      refine z_iload (pc2 := 179) rfl rfl rfl ?_
      refine z_iald (pc2 := 180) rfl rfl t87 (by omega) (by omega) (by decide) ?_
      intro v6 e6 r6 k6
      clear e6
      clear k6
      refine z_isub (pc2 := 181) rfl rfl ?_
      refine z_iast_any (pc2 := 182) rfl rfl t57 (by omega) (by omega) (by decide) (fun _ _ => st_box (by omega)) (fun u7 u7r => ?_); clear u7r
      refine z_iinc (lv2 := [(5, _), (0, _), (1, _), (2, _), (3, _)]) (pc2 := 185) rfl rfl rfl rfl rfl ?_
      refine z_goto (pc2 := 152) rfl rfl ?_
      refine z_lv (lv2 := [(0, _), (1, _), (2, _), (3, _), (5, _)]) ⟨rfl, rfl, rfl, rfl, rfl, trivial⟩ ?_
      exact ih _ _ _ (by omega) (zFb_u hI2 (by omega)) (by omega)
set_option maxHeartbeats 8000000 in
theorem m_set {L : Nat} {xs : Nat → Int32} {n sl : Nat} {T : Nat → zT} {I : Nat → Nat → Int} {P : Nat → Nat → Option Nat} {G : Nat → Nat → Int} {K : List zV → zH → Prop} {p f m2 : Int} (hT : ∀ a, 56 ≤ a → a ≤ 90 → T a = zFix a) (hp : zR p) (hf : zR f) (hm2 : zR m2) (hrl : zRl I) (hK : ∀ e I2 G2, zFr I I2 → K [.inl e] (n, sl, T, I2, P, G2)) : zX zMd L xs 240 [.inr (.inl (some 56)), .inl p, .inl f, .inl m2] (n, sl, T, I, P, G) K := by
  have t56 : T 56 = (1, 12, [1]) := hT 56 (by decide) (by decide)
  have t57 : T 57 = (2, 0, [112200, 1]) := hT 57 (by decide) (by decide)
  have t61 : T 61 = (2, 0, [8, 2]) := hT 61 (by decide) (by decide)
  have t77 : T 77 = (2, 0, [24, 6]) := hT 77 (by decide) (by decide)
  refine z_inl ?_
  refine z_lv (lv2 := [(0, _), (1, _), (2, _), (3, _)]) ⟨rfl, rfl, rfl, rfl, trivial⟩ ?_
  refine z_iload_n (pc2 := 1) rfl rfl rfl ?_
  refine z_callS (y2 := 207) (as := [_]) (rest := []) (pc2 := 4) rfl rfl rfl rfl ?_
  refine z_inl ?_
  refine z_lv (lv2 := [(0, _)]) ⟨rfl, trivial⟩ ?_
  refine z_iload_n (pc2 := 1) rfl rfl rfl ?_
  refine z_i2l (pc2 := 2) rfl rfl (by omega) ?_
  refine z_lconst 0 (pc2 := 3) rfl rfl rfl ?_
  refine z_ldc2 (11) (pc2 := 6) rfl rfl rfl ?_
  refine z_callS (y2 := 157) (as := [_, _, _]) (rest := []) (pc2 := 9) rfl rfl rfl rfl ?_
  refine m_in (by omega) (by omega) (by omega) (fun e1 e1a e1b e1c => ?_)
  show zB _ _ _ _ _ _ [_] _ _
  refine z_zret rfl rfl (by omega) ?_
  show zB _ _ _ _ _ _ [_] _ _
  refine z_if_eq (t := 21) (pc2 := 7) rfl rfl rfl (by omega) (fun c2 => ?_) (fun c2 => ?_)
  ·
    refine z_aload_n (pc2 := 22) rfl rfl rfl ?_
    refine z_iconst (pc2 := 23) rfl rfl ?_
    refine z_callV (y2 := 159) (as := [_]) (rest := []) (pc2 := 26) rfl rfl rfl rfl t56 rfl ?_
    refine z_inl ?_
    refine z_lv (lv2 := [(0, _), (1, _)]) ⟨rfl, rfl, trivial⟩ ?_
    refine z_aload_n (pc2 := 1) rfl rfl rfl ?_
    refine z_iload_n (pc2 := 2) rfl rfl rfl ?_
    refine z_putI (pc2 := 5) rfl rfl rfl rfl rfl rfl t56 (by omega) True.intro ?_
    refine z_iload_n (pc2 := 6) rfl rfl rfl ?_
    refine z_iret rfl rfl ?_
    show zB _ _ _ _ _ _ [_] _ _
    refine z_iret rfl rfl ?_
    exact hK _ _ _ (by repeat (first | exact zFr_rf _ | assumption | refine zFr_a ?_ (by decide) | refine zFr_f ?_ (by decide) | refine zFr_n ?_ (by omega) | refine zFr_h ?_ (by omega) | refine zFr_tok ?_ (by omega)))
  ·
    refine z_iload_n (pc2 := 8) rfl rfl rfl ?_
    refine z_callS (y2 := 164) (as := [_]) (rest := []) (pc2 := 11) rfl rfl rfl rfl ?_
    refine z_inl ?_
    refine z_lv (lv2 := [(0, _)]) ⟨rfl, trivial⟩ ?_
    refine z_iload_n (pc2 := 1) rfl rfl rfl ?_
    refine z_i2l (pc2 := 2) rfl rfl (by omega) ?_
    refine z_lconst 0 (pc2 := 3) rfl rfl rfl ?_
    refine z_ldc2 (3) (pc2 := 6) rfl rfl rfl ?_
    refine z_callS (y2 := 157) (as := [_, _, _]) (rest := []) (pc2 := 9) rfl rfl rfl rfl ?_
    refine m_in (by omega) (by omega) (by omega) (fun e3 e3a e3b e3c => ?_)
    show zB _ _ _ _ _ _ [_] _ _
    refine z_zret rfl rfl (by omega) ?_
    show zB _ _ _ _ _ _ [_] _ _
    refine z_if_eq (t := 21) (pc2 := 14) rfl rfl rfl (by omega) (fun c4 => ?_) (fun c4 => ?_)
    ·
      refine z_aload_n (pc2 := 22) rfl rfl rfl ?_
      refine z_iconst (pc2 := 23) rfl rfl ?_
      refine z_callV (y2 := 159) (as := [_]) (rest := []) (pc2 := 26) rfl rfl rfl rfl t56 rfl ?_
      refine z_inl ?_
      refine z_lv (lv2 := [(0, _), (1, _)]) ⟨rfl, rfl, trivial⟩ ?_
      refine z_aload_n (pc2 := 1) rfl rfl rfl ?_
      refine z_iload_n (pc2 := 2) rfl rfl rfl ?_
      refine z_putI (pc2 := 5) rfl rfl rfl rfl rfl rfl t56 (by omega) True.intro ?_
      refine z_iload_n (pc2 := 6) rfl rfl rfl ?_
      refine z_iret rfl rfl ?_
      show zB _ _ _ _ _ _ [_] _ _
      refine z_iret rfl rfl ?_
      exact hK _ _ _ (by repeat (first | exact zFr_rf _ | assumption | refine zFr_a ?_ (by decide) | refine zFr_f ?_ (by decide) | refine zFr_n ?_ (by omega) | refine zFr_h ?_ (by omega) | refine zFr_tok ?_ (by omega)))
    ·
      refine z_iload_n (pc2 := 15) rfl rfl rfl ?_
      refine z_sipush (pc2 := 18) rfl rfl (by decide) ?_
      refine z_icmp_le (t := 27) (pc2 := 21) rfl rfl rfl (by omega) (by omega) (fun c5 => ?_) (fun c5 => ?_)
      ·
        refine z_aload_n (pc2 := 28) rfl rfl rfl ?_
        refine z_getP (pc2 := 31) rfl rfl rfl rfl t56 ?_
        intro p6 p6e p6k; replace p6k : p6 = some 57 := p6k; clear p6e; subst p6k
        refine z_aload_n (pc2 := 32) rfl rfl rfl ?_
        refine z_callV (y2 := 162) (as := []) (rest := [_]) (pc2 := 35) rfl rfl rfl rfl t56 rfl ?_
        refine z_inl ?_
        refine z_lv (lv2 := [(0, _)]) ⟨rfl, trivial⟩ ?_
        refine z_ldc (56100) (pc2 := 2) rfl rfl rfl ?_
        refine z_aload_n (pc2 := 3) rfl rfl rfl ?_
        refine z_getI (pc2 := 6) 0 rfl rfl rfl rfl rfl t56 ?_
        intro v7 e7 r7 k7
        replace k7 : (0 : Int) ≤ v7 ∧ v7 ≤ 1 := k7; clear r7
        refine z_imul (pc2 := 7) rfl rfl ?_
        refine z_iret rfl rfl ?_
        show zB _ _ _ _ _ _ [_, _] _ _
        refine z_sipush (pc2 := 38) rfl rfl (by decide) ?_
        refine z_iadd (pc2 := 39) rfl rfl ?_
        refine z_iald (pc2 := 40) rfl rfl t57 (by omega) (by omega) (by decide) ?_
        intro v8 e8 r8 k8
        replace k8 := ok_lines k8 (by omega); clear r8
        refine z_bipush (pc2 := 42) rfl rfl (by decide) ?_
        refine z_icmp_ge (t := 52) (pc2 := 45) rfl rfl rfl (by omega) (by omega) (fun c9 => ?_) (fun c9 => ?_)
        ·
          refine z_aload_n (pc2 := 53) rfl rfl rfl ?_
          refine z_bipush (pc2 := 55) rfl rfl (by decide) ?_
          refine z_callV (y2 := 159) (as := [_]) (rest := []) (pc2 := 58) rfl rfl rfl rfl t56 rfl ?_
          refine z_inl ?_
          refine z_lv (lv2 := [(0, _), (1, _)]) ⟨rfl, rfl, trivial⟩ ?_
          refine z_aload_n (pc2 := 1) rfl rfl rfl ?_
          refine z_iload_n (pc2 := 2) rfl rfl rfl ?_
          refine z_putI (pc2 := 5) rfl rfl rfl rfl rfl rfl t56 (by omega) True.intro ?_
          refine z_iload_n (pc2 := 6) rfl rfl rfl ?_
          refine z_iret rfl rfl ?_
          show zB _ _ _ _ _ _ [_] _ _
          refine z_iret rfl rfl ?_
          exact hK _ _ _ (by repeat (first | exact zFr_rf _ | assumption | refine zFr_a ?_ (by decide) | refine zFr_f ?_ (by decide) | refine zFr_n ?_ (by omega) | refine zFr_h ?_ (by omega) | refine zFr_tok ?_ (by omega)))
        ·
          refine z_aload_n (pc2 := 46) rfl rfl rfl ?_
          refine z_callV (y2 := 161) (as := []) (rest := []) (pc2 := 49) rfl rfl rfl rfl t56 rfl ?_
          refine z_inl ?_
          refine z_lv (lv2 := [(0, _)]) ⟨rfl, trivial⟩ ?_
          refine z_aload_n (pc2 := 1) rfl rfl rfl ?_
          refine z_getI (pc2 := 4) 0 rfl rfl rfl rfl rfl t56 ?_
          intro v10 e10 r10 k10
          clear e10
          clear k10
          refine z_sipush (pc2 := 7) rfl rfl (by decide) ?_
          refine z_icmp_lt (t := 14) (pc2 := 10) rfl rfl rfl (by omega) (by omega) (fun c11 => ?_) (fun c11 => ?_)
          ·
            refine z_iconst (pc2 := 15) rfl rfl ?_
            refine z_zret rfl rfl (by omega) ?_
            show zB _ _ _ _ _ _ [_] _ _
            refine z_if_eq (t := 59) (pc2 := 52) rfl rfl rfl (by omega) (fun c12 => ?_) (fun c12 => by exfalso; omega)
            refine z_aload_n (pc2 := 60) rfl rfl rfl ?_
            refine z_getP (pc2 := 63) rfl rfl rfl rfl t56 ?_
            intro p13 p13e p13k; replace p13k : p13 = some 77 := p13k; clear p13e; subst p13k
            refine z_bipush (pc2 := 65) rfl rfl (by decide) ?_
            refine z_aload_n (pc2 := 66) rfl rfl rfl ?_
            refine z_getI (pc2 := 69) 0 rfl rfl rfl rfl rfl t56 ?_
            intro v14 e14 r14 k14
            replace k14 : (0 : Int) ≤ v14 ∧ v14 ≤ 1 := k14; clear r14
            replace e14 : v7 = v14 := by rw [e14]; first | exact e7 | exact Eq.symm e7 | (simp [zU]; first | done | exact e7 | exact Eq.symm e7 | omega)
            subst e14
            refine z_imul (pc2 := 70) rfl rfl ?_
            refine z_iload_n (pc2 := 71) rfl rfl rfl ?_
            refine z_iadd (pc2 := 72) rfl rfl ?_
            refine z_iald (pc2 := 73) rfl rfl t77 (by omega) (by omega) (by decide) ?_
            intro v15 e15 r15 k15
            clear e15
            replace k15 : (-1 : Int) ≤ v15 ∧ v15 ≤ 40 := k15; clear r15
            refine z_if_lt (t := 89) (pc2 := 76) rfl rfl rfl (by omega) (fun c16 => ?_) (fun c16 => ?_)
            ·
              refine z_aload_n (pc2 := 90) rfl rfl rfl ?_
              refine z_iconst (pc2 := 91) rfl rfl ?_
              refine z_callV (y2 := 160) (as := [_]) (rest := []) (pc2 := 94) rfl rfl rfl rfl t56 rfl ?_
              refine z_inl ?_
              refine z_lv (lv2 := [(0, _), (1, _)]) ⟨rfl, rfl, trivial⟩ ?_
              refine z_aload_n (pc2 := 1) rfl rfl rfl ?_
              refine z_dup (pc2 := 2) rfl rfl rfl ?_
              refine z_getI (pc2 := 5) 0 rfl rfl rfl rfl rfl t56 ?_
              intro v17 e17 r17 k17
              clear e17
              clear k17
              refine z_iconst (pc2 := 6) rfl rfl ?_
              refine z_iadd (pc2 := 7) rfl rfl ?_
              refine z_putI_any (pc2 := 10) rfl rfl rfl rfl rfl rfl t56 (fun _ _ => True.intro) (fun u18 u18r => ?_); clear u18r
              refine z_aload_n (pc2 := 11) rfl rfl rfl ?_
              refine z_bipush (pc2 := 13) rfl rfl (by decide) ?_
              refine z_iload_n (pc2 := 14) rfl rfl rfl ?_
              refine z_isub (pc2 := 15) rfl rfl ?_
              refine z_putI (pc2 := 18) rfl rfl rfl rfl rfl rfl t56 (by omega) True.intro ?_
              refine z_aload_n (pc2 := 19) rfl rfl rfl ?_
              refine z_getI (pc2 := 22) 0 rfl rfl rfl rfl rfl t56 ?_
              intro v19 e19 r19 k19
              clear e19
              clear k19
              refine z_iret rfl rfl ?_
              show zB _ _ _ _ _ _ [_] _ _
              refine z_iret rfl rfl ?_
              exact hK _ _ _ (by repeat (first | exact zFr_rf _ | assumption | refine zFr_a ?_ (by decide) | refine zFr_f ?_ (by decide) | refine zFr_n ?_ (by omega) | refine zFr_h ?_ (by omega) | refine zFr_tok ?_ (by omega)))
            ·
              refine z_aload_n (pc2 := 77) rfl rfl rfl ?_
              refine z_getP (pc2 := 80) rfl rfl rfl rfl t56 ?_
              intro p20 p20e p20k; replace p20k : p20 = some 61 := p20k; clear p20e; subst p20k
              refine z_aload_n (pc2 := 81) rfl rfl rfl ?_
              refine z_iload_n (pc2 := 82) rfl rfl rfl ?_
              refine z_callV (y2 := 163) (as := [_]) (rest := [_]) (pc2 := 85) rfl rfl rfl rfl t56 rfl ?_
              refine z_inl ?_
              refine z_lv (lv2 := [(0, _), (1, _)]) ⟨rfl, rfl, trivial⟩ ?_
              refine z_iconst (pc2 := 1) rfl rfl ?_
              refine z_aload_n (pc2 := 2) rfl rfl rfl ?_
              refine z_getI (pc2 := 5) 0 rfl rfl rfl rfl rfl t56 ?_
              intro v21 e21 r21 k21
              replace k21 : (0 : Int) ≤ v21 ∧ v21 ≤ 1 := k21; clear r21
              replace e21 : v7 = v21 := by rw [e21]; first | exact e7 | exact Eq.symm e7 | (simp [zU]; first | done | exact e7 | exact Eq.symm e7 | omega)
              subst e21
              refine z_imul (pc2 := 6) rfl rfl ?_
              refine z_iload_n (pc2 := 7) rfl rfl rfl ?_
              refine z_iadd (pc2 := 8) rfl rfl ?_
              refine z_iret rfl rfl ?_
              show zB _ _ _ _ _ _ [_, _] _ _
              refine z_iald (pc2 := 86) rfl rfl t61 (by omega) (by omega) (by decide) ?_
              intro v22 e22 r22 k22
              replace k22 : (-1 : Int) ≤ v22 ∧ v22 ≤ 24 := k22; clear r22
              refine z_if_ge (t := 95) (pc2 := 89) rfl rfl rfl (by omega) (fun c23 => ?_) (fun c23 => ?_)
              ·
                refine z_iload_n (pc2 := 96) rfl rfl rfl ?_
                refine z_if_ge (t := 105) (pc2 := 99) rfl rfl rfl (by omega) (fun c24 => ?_) (fun c24 => ?_)
                ·
                  refine z_aload_n (pc2 := 106) rfl rfl rfl ?_
                  refine z_iload_n (pc2 := 107) rfl rfl rfl ?_
                  refine z_iload_n (pc2 := 108) rfl rfl rfl ?_
                  refine z_callV (y2 := 226) (as := [_, _]) (rest := []) (pc2 := 111) rfl rfl rfl rfl t56 rfl ?_
                  refine m_reads hT (by omega) (by omega) (fun w25 Iw25 Gw25 w25r fw25 tw25 => ?_)
                  show zB _ _ _ _ _ _ [_] _ _
                  refine z_istore (lv2 := [(4, _), (0, _), (1, _), (2, _), (3, _)]) (pc2 := 113) rfl rfl rfl rfl ?_
                  refine z_iload (pc2 := 115) rfl rfl rfl ?_
                  refine z_if_eq (t := 125) (pc2 := 118) rfl rfl rfl (by omega) (fun c26 => ?_) (fun c26 => ?_)
                  ·
                    refine z_aload_n (pc2 := 126) rfl rfl rfl ?_
                    refine z_iload_n (pc2 := 127) rfl rfl rfl ?_
                    refine z_iload_n (pc2 := 128) rfl rfl rfl ?_
                    refine z_callV (y2 := 233) (as := [_, _]) (rest := []) (pc2 := 131) rfl rfl rfl rfl t56 rfl ?_
                    refine m_chooseLines hT (by omega) (fw25.2 hrl) (fun Iw27 Gw27 Nw27 cw27 hw27 => ?_)
                    have fw27 := zFr_tr fw25 cw27.1.1; have tw27 := zQt_tr tw25 cw27.1.2; have gw27 := zGo_of cw27
                    show zB _ _ _ _ _ _ [] _ _
                    refine z_aload_n (pc2 := 132) rfl rfl rfl ?_
                    refine z_callV (y2 := 235) (as := []) (rest := []) (pc2 := 135) rfl rfl rfl rfl t56 rfl ?_
                    refine m_areThere (N := Nw27) hT (by omega) gw27 (fw27.2 hrl) (fun w28 Iw28 Gw28 w28r ww28 => ?_)
                    have fw28 := zFr_tr fw27 (zFr_wl ww28); have tw28 := zQt_tr tw27 (zQt_wl ww28); have gw28 := zGo_wl gw27 ww28
                    show zB _ _ _ _ _ _ [_] _ _
                    refine z_if_ne (t := 145) (pc2 := 138) rfl rfl rfl (by omega) (fun c29 => ?_) (fun c29 => ?_)
                    ·
                      refine z_aload_n (pc2 := 146) rfl rfl rfl ?_
                      refine z_callV (y2 := 167) (as := []) (rest := []) (pc2 := 149) rfl rfl rfl rfl t56 rfl ?_
                      refine m_keep hT (fun Iw30 Gw30 fw30 ow30 => ?_)
                      replace fw30 := zFr_tr (I := I) (by repeat (first | exact zFr_rf _ | assumption | refine zFr_a ?_ (by decide) | refine zFr_f ?_ (by decide) | refine zFr_n ?_ (by omega) | refine zFr_h ?_ (by omega) | refine zFr_tok ?_ (by omega))) fw30
                      show zB _ _ _ _ _ _ [] _ _
                      refine z_iconst (pc2 := 150) rfl rfl ?_
                      refine z_istore (lv2 := [(5, _), (4, _), (0, _), (1, _), (2, _), (3, _)]) (pc2 := 152) rfl rfl rfl rfl ?_
                      refine z_lv (lv2 := [(0, _), (1, _), (2, _), (3, _), (5, _)]) ⟨rfl, rfl, rfl, rfl, rfl, trivial⟩ ?_
                      exact l_set1 (N := Nw27) (q := v7) (l := v8) hT (by omega) (by omega) (by omega) (by omega) (by omega) (by omega) (fw30.2 hrl) (zGo_o gw28 ow30) (by rw [ow30 56 3 (by omega) (by omega), tw28.2.2]; exact Eq.symm (by assumption)) (by rw [ow30 57 _ (by omega) (by omega), tw28.1]; exact Eq.symm (by assumption)) (by rw [ow30 61 _ (by omega) (by omega), tw28.2.1]; omega) (fun e I9 G9 h9 => hK e I9 G9 (zFr_tr fw30 h9)) _ _ _ _ (by omega) (zFb_rf _) (Nat.lt_succ_self _)
                    ·
                      refine z_aload_n (pc2 := 139) rfl rfl rfl ?_
                      refine z_bipush (pc2 := 141) rfl rfl (by decide) ?_
                      refine z_callV (y2 := 160) (as := [_]) (rest := []) (pc2 := 144) rfl rfl rfl rfl t56 rfl ?_
                      refine z_inl ?_
                      refine z_lv (lv2 := [(0, _), (1, _)]) ⟨rfl, rfl, trivial⟩ ?_
                      refine z_aload_n (pc2 := 1) rfl rfl rfl ?_
                      refine z_dup (pc2 := 2) rfl rfl rfl ?_
                      refine z_getI (pc2 := 5) 0 rfl rfl rfl rfl rfl t56 ?_
                      intro v31 e31 r31 k31
                      clear e31
                      clear k31
                      refine z_iconst (pc2 := 6) rfl rfl ?_
                      refine z_iadd (pc2 := 7) rfl rfl ?_
                      refine z_putI_any (pc2 := 10) rfl rfl rfl rfl rfl rfl t56 (fun _ _ => True.intro) (fun u32 u32r => ?_); clear u32r
                      refine z_aload_n (pc2 := 11) rfl rfl rfl ?_
                      refine z_bipush (pc2 := 13) rfl rfl (by decide) ?_
                      refine z_iload_n (pc2 := 14) rfl rfl rfl ?_
                      refine z_isub (pc2 := 15) rfl rfl ?_
                      refine z_putI (pc2 := 18) rfl rfl rfl rfl rfl rfl t56 (by omega) True.intro ?_
                      refine z_aload_n (pc2 := 19) rfl rfl rfl ?_
                      refine z_getI (pc2 := 22) 0 rfl rfl rfl rfl rfl t56 ?_
                      intro v33 e33 r33 k33
                      clear e33
                      clear k33
                      refine z_iret rfl rfl ?_
                      show zB _ _ _ _ _ _ [_] _ _
                      refine z_iret rfl rfl ?_
                      exact hK _ _ _ (by repeat (first | exact zFr_rf _ | assumption | refine zFr_a ?_ (by decide) | refine zFr_f ?_ (by decide) | refine zFr_n ?_ (by omega) | refine zFr_h ?_ (by omega) | refine zFr_tok ?_ (by omega)))
                  ·
                    refine z_aload_n (pc2 := 119) rfl rfl rfl ?_
                    refine z_iload (pc2 := 121) rfl rfl rfl ?_
                    refine z_callV (y2 := 160) (as := [_]) (rest := []) (pc2 := 124) rfl rfl rfl rfl t56 rfl ?_
                    refine z_inl ?_
                    refine z_lv (lv2 := [(0, _), (1, _)]) ⟨rfl, rfl, trivial⟩ ?_
                    refine z_aload_n (pc2 := 1) rfl rfl rfl ?_
                    refine z_dup (pc2 := 2) rfl rfl rfl ?_
                    refine z_getI (pc2 := 5) 0 rfl rfl rfl rfl rfl t56 ?_
                    intro v34 e34 r34 k34
                    clear e34
                    clear k34
                    refine z_iconst (pc2 := 6) rfl rfl ?_
                    refine z_iadd (pc2 := 7) rfl rfl ?_
                    refine z_putI_any (pc2 := 10) rfl rfl rfl rfl rfl rfl t56 (fun _ _ => True.intro) (fun u35 u35r => ?_); clear u35r
                    refine z_aload_n (pc2 := 11) rfl rfl rfl ?_
                    refine z_bipush (pc2 := 13) rfl rfl (by decide) ?_
                    refine z_iload_n (pc2 := 14) rfl rfl rfl ?_
                    refine z_isub (pc2 := 15) rfl rfl ?_
                    refine z_putI (pc2 := 18) rfl rfl rfl rfl rfl rfl t56 (by omega) True.intro ?_
                    refine z_aload_n (pc2 := 19) rfl rfl rfl ?_
                    refine z_getI (pc2 := 22) 0 rfl rfl rfl rfl rfl t56 ?_
                    intro v36 e36 r36 k36
                    clear e36
                    clear k36
                    refine z_iret rfl rfl ?_
                    show zB _ _ _ _ _ _ [_] _ _
                    refine z_iret rfl rfl ?_
                    exact hK _ _ _ (by repeat (first | exact zFr_rf _ | assumption | refine zFr_a ?_ (by decide) | refine zFr_f ?_ (by decide) | refine zFr_n ?_ (by omega) | refine zFr_h ?_ (by omega) | refine zFr_tok ?_ (by omega)))
                ·
                  refine z_aload_n (pc2 := 100) rfl rfl rfl ?_
                  refine z_iconst (pc2 := 101) rfl rfl ?_
                  refine z_callV (y2 := 160) (as := [_]) (rest := []) (pc2 := 104) rfl rfl rfl rfl t56 rfl ?_
                  refine z_inl ?_
                  refine z_lv (lv2 := [(0, _), (1, _)]) ⟨rfl, rfl, trivial⟩ ?_
                  refine z_aload_n (pc2 := 1) rfl rfl rfl ?_
                  refine z_dup (pc2 := 2) rfl rfl rfl ?_
                  refine z_getI (pc2 := 5) 0 rfl rfl rfl rfl rfl t56 ?_
                  intro v37 e37 r37 k37
                  clear e37
                  clear k37
                  refine z_iconst (pc2 := 6) rfl rfl ?_
                  refine z_iadd (pc2 := 7) rfl rfl ?_
                  refine z_putI_any (pc2 := 10) rfl rfl rfl rfl rfl rfl t56 (fun _ _ => True.intro) (fun u38 u38r => ?_); clear u38r
                  refine z_aload_n (pc2 := 11) rfl rfl rfl ?_
                  refine z_bipush (pc2 := 13) rfl rfl (by decide) ?_
                  refine z_iload_n (pc2 := 14) rfl rfl rfl ?_
                  refine z_isub (pc2 := 15) rfl rfl ?_
                  refine z_putI (pc2 := 18) rfl rfl rfl rfl rfl rfl t56 (by omega) True.intro ?_
                  refine z_aload_n (pc2 := 19) rfl rfl rfl ?_
                  refine z_getI (pc2 := 22) 0 rfl rfl rfl rfl rfl t56 ?_
                  intro v39 e39 r39 k39
                  clear e39
                  clear k39
                  refine z_iret rfl rfl ?_
                  show zB _ _ _ _ _ _ [_] _ _
                  refine z_iret rfl rfl ?_
                  exact hK _ _ _ (by repeat (first | exact zFr_rf _ | assumption | refine zFr_a ?_ (by decide) | refine zFr_f ?_ (by decide) | refine zFr_n ?_ (by omega) | refine zFr_h ?_ (by omega) | refine zFr_tok ?_ (by omega)))
              ·
                refine z_aload_n (pc2 := 90) rfl rfl rfl ?_
                refine z_iconst (pc2 := 91) rfl rfl ?_
                refine z_callV (y2 := 160) (as := [_]) (rest := []) (pc2 := 94) rfl rfl rfl rfl t56 rfl ?_
                refine z_inl ?_
                refine z_lv (lv2 := [(0, _), (1, _)]) ⟨rfl, rfl, trivial⟩ ?_
                refine z_aload_n (pc2 := 1) rfl rfl rfl ?_
                refine z_dup (pc2 := 2) rfl rfl rfl ?_
                refine z_getI (pc2 := 5) 0 rfl rfl rfl rfl rfl t56 ?_
                intro v40 e40 r40 k40
                clear e40
                clear k40
                refine z_iconst (pc2 := 6) rfl rfl ?_
                refine z_iadd (pc2 := 7) rfl rfl ?_
                refine z_putI_any (pc2 := 10) rfl rfl rfl rfl rfl rfl t56 (fun _ _ => True.intro) (fun u41 u41r => ?_); clear u41r
                refine z_aload_n (pc2 := 11) rfl rfl rfl ?_
                refine z_bipush (pc2 := 13) rfl rfl (by decide) ?_
                refine z_iload_n (pc2 := 14) rfl rfl rfl ?_
                refine z_isub (pc2 := 15) rfl rfl ?_
                refine z_putI (pc2 := 18) rfl rfl rfl rfl rfl rfl t56 (by omega) True.intro ?_
                refine z_aload_n (pc2 := 19) rfl rfl rfl ?_
                refine z_getI (pc2 := 22) 0 rfl rfl rfl rfl rfl t56 ?_
                intro v42 e42 r42 k42
                clear e42
                clear k42
                refine z_iret rfl rfl ?_
                show zB _ _ _ _ _ _ [_] _ _
                refine z_iret rfl rfl ?_
                exact hK _ _ _ (by repeat (first | exact zFr_rf _ | assumption | refine zFr_a ?_ (by decide) | refine zFr_f ?_ (by decide) | refine zFr_n ?_ (by omega) | refine zFr_h ?_ (by omega) | refine zFr_tok ?_ (by omega)))
          ·
            refine z_iconst (pc2 := 11) rfl rfl ?_
            refine z_goto (pc2 := 15) rfl rfl ?_
            refine z_zret rfl rfl (by omega) ?_
            show zB _ _ _ _ _ _ [_] _ _
            refine z_if_eq (t := 59) (pc2 := 52) rfl rfl rfl (by omega) (fun c43 => by exfalso; omega) (fun c43 => ?_)
            refine z_aload_n (pc2 := 53) rfl rfl rfl ?_
            refine z_bipush (pc2 := 55) rfl rfl (by decide) ?_
            refine z_callV (y2 := 159) (as := [_]) (rest := []) (pc2 := 58) rfl rfl rfl rfl t56 rfl ?_
            refine z_inl ?_
            refine z_lv (lv2 := [(0, _), (1, _)]) ⟨rfl, rfl, trivial⟩ ?_
            refine z_aload_n (pc2 := 1) rfl rfl rfl ?_
            refine z_iload_n (pc2 := 2) rfl rfl rfl ?_
            refine z_putI (pc2 := 5) rfl rfl rfl rfl rfl rfl t56 (by omega) True.intro ?_
            refine z_iload_n (pc2 := 6) rfl rfl rfl ?_
            refine z_iret rfl rfl ?_
            show zB _ _ _ _ _ _ [_] _ _
            refine z_iret rfl rfl ?_
            exact hK _ _ _ (by repeat (first | exact zFr_rf _ | assumption | refine zFr_a ?_ (by decide) | refine zFr_f ?_ (by decide) | refine zFr_n ?_ (by omega) | refine zFr_h ?_ (by omega) | refine zFr_tok ?_ (by omega)))
      ·
        refine z_aload_n (pc2 := 22) rfl rfl rfl ?_
        refine z_iconst (pc2 := 23) rfl rfl ?_
        refine z_callV (y2 := 159) (as := [_]) (rest := []) (pc2 := 26) rfl rfl rfl rfl t56 rfl ?_
        refine z_inl ?_
        refine z_lv (lv2 := [(0, _), (1, _)]) ⟨rfl, rfl, trivial⟩ ?_
        refine z_aload_n (pc2 := 1) rfl rfl rfl ?_
        refine z_iload_n (pc2 := 2) rfl rfl rfl ?_
        refine z_putI (pc2 := 5) rfl rfl rfl rfl rfl rfl t56 (by omega) True.intro ?_
        refine z_iload_n (pc2 := 6) rfl rfl rfl ?_
        refine z_iret rfl rfl ?_
        show zB _ _ _ _ _ _ [_] _ _
        refine z_iret rfl rfl ?_
        exact hK _ _ _ (by repeat (first | exact zFr_rf _ | assumption | refine zFr_a ?_ (by decide) | refine zFr_f ?_ (by decide) | refine zFr_n ?_ (by omega) | refine zFr_h ?_ (by omega) | refine zFr_tok ?_ (by omega)))
