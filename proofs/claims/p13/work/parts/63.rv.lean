/-! the reference: locking up -/
set_option maxHeartbeats 8000000 in
theorem l_lock2 {L : Nat} {xs : Nat → Int32} {n sl : Nat} {T : Nat → zT} {I : Nat → Nat → Int} {P : Nat → Nat → Option Nat} {K : List zV → zH → Prop} {g F v w d q : Int} (hT : ∀ a, 56 ≤ a → a ≤ 90 → T a = zFix a) (hg : 1 ≤ g ∧ g ≤ 12) (hF : 0 ≤ F ∧ F ≤ 11) (hw : 0 ≤ w ∧ w ≤ 89) (hd : 0 ≤ d ∧ d ≤ 720) (hq : 0 ≤ q ∧ q ≤ 1) (hFg : F + g ≤ 12) (hq3 : I 56 3 = q) (h164 : I 57 (56100 * q + 164).toNat = w) (h167 : I 57 (56100 * q + 167).toNat = d) (hd3 : zSum (I 57) (56100 * q + 1901).toNat 2 F.toNat = d) (hwp : zSum (I 57) (56100 * q + 171).toNat 17 g.toNat = w) (hdw : d + w ≤ 720) (hK : ∀ e I2 G2, zFr I I2 → K [.inl e] (n, sl, T, I2, P, G2)) (m : Nat) : ∀ (I2 : Nat → Nat → Int) (G2 : Nat → Nat → Int), ∀ (k : Int), 0 ≤ k ∧ k ≤ 5874 → zLq q I I2 → k ≤ 66 * w → zLs q F g I I2 → (5874 - k).toNat < m → zB zMd L xs 257 202 [(0, .inr (.inl (some 56))), (1, .inl g), (2, .inl F), (3, .inl v), (4, .inl w), (5, .inl d), (6, .inl k)] [] (n, sl, T, I2, P, G2) K := by
  have t56 : T 56 = (1, 12, [1]) := hT 56 (by decide) (by decide)
  have t57 : T 57 = (2, 0, [112200, 1]) := hT 57 (by decide) (by decide)
  induction m with
  | zero => intro I2 G2 k hk hI2 hb3 hls hm; omega
  | succ m ih =>
    intro I2 G2 k hk hI2 hb3 hls hm
    refine z_iload (pc2 := 204) rfl rfl rfl ?_
    refine z_bipush (pc2 := 206) rfl rfl (by decide) ?_
    refine z_iload (pc2 := 208) rfl rfl rfl ?_
    refine z_imul (pc2 := 209) rfl rfl ?_
    refine z_icmp_ge (t := 245) (pc2 := 212) rfl rfl rfl (by omega) (by omega) (fun c1 => ?_) (fun c1 => ?_)
    ·
      refine z_aload_n (pc2 := 246) rfl rfl rfl ?_
      refine z_getP (pc2 := 249) rfl rfl rfl rfl t56 ?_
      intro p2 p2e p2k; replace p2k : p2 = some 57 := p2k; clear p2e; subst p2k
      refine z_aload_n (pc2 := 250) rfl rfl rfl ?_
      refine z_callV (y2 := 162) (as := []) (rest := [_]) (pc2 := 253) rfl rfl rfl rfl t56 rfl ?_
      refine z_inl ?_
      refine z_lv (lv2 := [(0, _)]) ⟨rfl, trivial⟩ ?_
      refine z_ldc (56100) (pc2 := 2) rfl rfl rfl ?_
      refine z_aload_n (pc2 := 3) rfl rfl rfl ?_
      refine z_getI (pc2 := 6) 0 rfl rfl rfl rfl rfl t56 ?_
      intro v3 e3 r3 k3
      replace k3 : (0 : Int) ≤ v3 ∧ v3 ≤ 1 := k3; clear r3
      replace e3 : q = v3 := by rw [e3]; first | exact (zLq_k hI2 (by decide) hq3) | exact Eq.symm (zLq_k hI2 (by decide) hq3) | (simp [zU]; first | done | exact (zLq_k hI2 (by decide) hq3) | exact Eq.symm (zLq_k hI2 (by decide) hq3) | omega)
      subst e3
      refine z_imul (pc2 := 7) rfl rfl ?_
      refine z_iret rfl rfl ?_
      show zB _ _ _ _ _ _ [_, _] _ _
      refine z_sipush (pc2 := 256) rfl rfl (by decide) ?_
      refine z_iadd (pc2 := 257) rfl rfl ?_
      refine z_iload (pc2 := 259) rfl rfl rfl ?_
      refine z_iload (pc2 := 261) rfl rfl rfl ?_
      refine z_iadd (pc2 := 262) rfl rfl ?_
      refine z_iast (pc2 := 263) rfl rfl t57 (by omega) (by omega) (by decide) (by omega) (st_sets (by omega) (by omega)) ?_
      refine z_aload_n (pc2 := 264) rfl rfl rfl ?_
      refine z_getP (pc2 := 267) rfl rfl rfl rfl t56 ?_
      intro p4 p4e p4k; replace p4k : p4 = some 57 := p4k; clear p4e; subst p4k
      refine z_aload_n (pc2 := 268) rfl rfl rfl ?_
      refine z_callV (y2 := 162) (as := []) (rest := [_]) (pc2 := 271) rfl rfl rfl rfl t56 rfl ?_
      refine z_inl ?_
      refine z_lv (lv2 := [(0, _)]) ⟨rfl, trivial⟩ ?_
      refine z_ldc (56100) (pc2 := 2) rfl rfl rfl ?_
      refine z_aload_n (pc2 := 3) rfl rfl rfl ?_
      refine z_getI (pc2 := 6) 0 rfl rfl rfl rfl rfl t56 ?_
      intro v5 e5 r5 k5
      replace k5 : (0 : Int) ≤ v5 ∧ v5 ≤ 1 := k5; clear r5
      replace e5 : q = v5 := by rw [e5]; first | exact (zLq_k hI2 (by decide) hq3) | exact Eq.symm (zLq_k hI2 (by decide) hq3) | (simp [zU]; first | done | exact (zLq_k hI2 (by decide) hq3) | exact Eq.symm (zLq_k hI2 (by decide) hq3) | omega)
      subst e5
      refine z_imul (pc2 := 7) rfl rfl ?_
      refine z_iret rfl rfl ?_
      show zB _ _ _ _ _ _ [_, _] _ _
      refine z_sipush (pc2 := 274) rfl rfl (by decide) ?_
      refine z_iadd (pc2 := 275) rfl rfl ?_
      refine z_iload_n (pc2 := 276) rfl rfl rfl ?_
      refine z_iload_n (pc2 := 277) rfl rfl rfl ?_
      refine z_iadd (pc2 := 278) rfl rfl ?_
      refine z_iast (pc2 := 279) rfl rfl t57 (by omega) (by omega) (by decide) (by omega) (st_formes (by omega) (by omega)) ?_
      refine z_aload_n (pc2 := 280) rfl rfl rfl ?_
      refine z_getP (pc2 := 283) rfl rfl rfl rfl t56 ?_
      intro p6 p6e p6k; replace p6k : p6 = some 57 := p6k; clear p6e; subst p6k
      refine z_aload_n (pc2 := 284) rfl rfl rfl ?_
      refine z_callV (y2 := 162) (as := []) (rest := [_]) (pc2 := 287) rfl rfl rfl rfl t56 rfl ?_
      refine z_inl ?_
      refine z_lv (lv2 := [(0, _)]) ⟨rfl, trivial⟩ ?_
      refine z_ldc (56100) (pc2 := 2) rfl rfl rfl ?_
      refine z_aload_n (pc2 := 3) rfl rfl rfl ?_
      refine z_getI (pc2 := 6) 0 rfl rfl rfl rfl rfl t56 ?_
      intro v7 e7 r7 k7
      replace k7 : (0 : Int) ≤ v7 ∧ v7 ≤ 1 := k7; clear r7
      replace e7 : q = v7 := by rw [e7]; first | exact (zLq_k hI2 (by decide) hq3) | exact Eq.symm (zLq_k hI2 (by decide) hq3) | (simp [zU]; first | done | exact (zLq_k hI2 (by decide) hq3) | exact Eq.symm (zLq_k hI2 (by decide) hq3) | omega)
      subst e7
      refine z_imul (pc2 := 7) rfl rfl ?_
      refine z_iret rfl rfl ?_
      show zB _ _ _ _ _ _ [_, _] _ _
      refine z_sipush (pc2 := 290) rfl rfl (by decide) ?_
      refine z_iadd (pc2 := 291) rfl rfl ?_
      refine z_iconst (pc2 := 292) rfl rfl ?_
      refine z_iast (pc2 := 293) rfl rfl t57 (by omega) (by omega) (by decide) (by omega) (st_lines (by omega) (by omega)) ?_
      refine z_aload_n (pc2 := 294) rfl rfl rfl ?_
      refine z_getP (pc2 := 297) rfl rfl rfl rfl t56 ?_
      intro p8 p8e p8k; replace p8k : p8 = some 57 := p8k; clear p8e; subst p8k
      refine z_aload_n (pc2 := 298) rfl rfl rfl ?_
      refine z_callV (y2 := 162) (as := []) (rest := [_]) (pc2 := 301) rfl rfl rfl rfl t56 rfl ?_
      refine z_inl ?_
      refine z_lv (lv2 := [(0, _)]) ⟨rfl, trivial⟩ ?_
      refine z_ldc (56100) (pc2 := 2) rfl rfl rfl ?_
      refine z_aload_n (pc2 := 3) rfl rfl rfl ?_
      refine z_getI (pc2 := 6) 0 rfl rfl rfl rfl rfl t56 ?_
      intro v9 e9 r9 k9
      replace k9 : (0 : Int) ≤ v9 ∧ v9 ≤ 1 := k9; clear r9
      replace e9 : q = v9 := by rw [e9]; first | exact (zLq_k hI2 (by decide) hq3) | exact Eq.symm (zLq_k hI2 (by decide) hq3) | (simp [zU]; first | done | exact (zLq_k hI2 (by decide) hq3) | exact Eq.symm (zLq_k hI2 (by decide) hq3) | omega)
      subst e9
      refine z_imul (pc2 := 7) rfl rfl ?_
      refine z_iret rfl rfl ?_
      show zB _ _ _ _ _ _ [_, _] _ _
      refine z_sipush (pc2 := 304) rfl rfl (by decide) ?_
      refine z_iadd (pc2 := 305) rfl rfl ?_
      refine z_iconst (pc2 := 306) rfl rfl ?_
      refine z_iast (pc2 := 307) rfl rfl t57 (by omega) (by omega) (by decide) (by omega) (st_lines (by omega) (by omega)) ?_
      refine z_aload_n (pc2 := 308) rfl rfl rfl ?_
      refine z_iload_n (pc2 := 309) rfl rfl rfl ?_
      refine z_callV (y2 := 158) (as := [_]) (rest := []) (pc2 := 312) rfl rfl rfl rfl t56 rfl ?_
      refine z_inl ?_
      refine z_lv (lv2 := [(0, _), (1, _)]) ⟨rfl, rfl, trivial⟩ ?_
      refine z_aload_n (pc2 := 1) rfl rfl rfl ?_
      refine z_iconst (pc2 := 2) rfl rfl ?_
      refine z_putI (pc2 := 5) rfl rfl rfl rfl rfl rfl t56 (by omega) True.intro ?_
      refine z_iload_n (pc2 := 6) rfl rfl rfl ?_
      refine z_iret rfl rfl ?_
      show zB _ _ _ _ _ _ [_] _ _
      refine z_iret rfl rfl ?_
      exact hK _ _ _ (by repeat (first | exact zLq_end hI2 hls (by omega) (by omega) hd3 hwp | refine zFr_f ?_ (by decide)))
    ·
      refine z_aload_n (pc2 := 213) rfl rfl rfl ?_
      refine z_getP (pc2 := 216) rfl rfl rfl rfl t56 ?_
      intro p10 p10e p10k; replace p10k : p10 = some 57 := p10k; clear p10e; subst p10k
      refine z_aload_n (pc2 := 217) rfl rfl rfl ?_
      refine z_iload (pc2 := 219) rfl rfl rfl ?_
      refine z_callV (y2 := 256) (as := [_]) (rest := [_]) (pc2 := 222) rfl rfl rfl rfl t56 rfl ?_
      refine z_inl ?_
      refine z_lv (lv2 := [(0, _), (1, _)]) ⟨rfl, rfl, trivial⟩ ?_
      refine z_aload_n (pc2 := 1) rfl rfl rfl ?_
      refine z_callV (y2 := 162) (as := []) (rest := []) (pc2 := 4) rfl rfl rfl rfl t56 rfl ?_
      refine z_inl ?_
      refine z_lv (lv2 := [(0, _)]) ⟨rfl, trivial⟩ ?_
      refine z_ldc (56100) (pc2 := 2) rfl rfl rfl ?_
      refine z_aload_n (pc2 := 3) rfl rfl rfl ?_
      refine z_getI (pc2 := 6) 0 rfl rfl rfl rfl rfl t56 ?_
      intro v11 e11 r11 k11
      replace k11 : (0 : Int) ≤ v11 ∧ v11 ≤ 1 := k11; clear r11
      replace e11 : q = v11 := by rw [e11]; first | exact (zLq_k hI2 (by decide) hq3) | exact Eq.symm (zLq_k hI2 (by decide) hq3) | (simp [zU]; first | done | exact (zLq_k hI2 (by decide) hq3) | exact Eq.symm (zLq_k hI2 (by decide) hq3) | omega)
      subst e11
      refine z_imul (pc2 := 7) rfl rfl ?_
      refine z_iret rfl rfl ?_
      show zB _ _ _ _ _ _ [_] _ _
      refine z_sipush (pc2 := 7) rfl rfl (by decide) ?_
      refine z_iadd (pc2 := 8) rfl rfl ?_
      refine z_bipush (pc2 := 10) rfl rfl (by decide) ?_
      refine z_iload_n (pc2 := 11) rfl rfl rfl ?_
      refine z_imul (pc2 := 12) rfl rfl ?_
      refine z_iadd (pc2 := 13) rfl rfl ?_
      refine z_iret rfl rfl ?_
      show zB _ _ _ _ _ _ [_, _] _ _
      refine z_iload (pc2 := 224) rfl rfl rfl ?_
      refine z_iadd (pc2 := 225) rfl rfl ?_
      refine z_aload_n (pc2 := 226) rfl rfl rfl ?_
      refine z_getP (pc2 := 229) rfl rfl rfl rfl t56 ?_
      intro p12 p12e p12k; replace p12k : p12 = some 57 := p12k; clear p12e; subst p12k
      refine z_aload_n (pc2 := 230) rfl rfl rfl ?_
      refine z_iconst (pc2 := 231) rfl rfl ?_
      refine z_callV (y2 := 238) (as := [_]) (rest := [_, _, _]) (pc2 := 234) rfl rfl rfl rfl t56 rfl ?_
      refine z_inl ?_
      refine z_lv (lv2 := [(0, _), (1, _)]) ⟨rfl, rfl, trivial⟩ ?_
      refine z_aload_n (pc2 := 1) rfl rfl rfl ?_
      refine z_callV (y2 := 162) (as := []) (rest := []) (pc2 := 4) rfl rfl rfl rfl t56 rfl ?_
      refine z_inl ?_
      refine z_lv (lv2 := [(0, _)]) ⟨rfl, trivial⟩ ?_
      refine z_ldc (56100) (pc2 := 2) rfl rfl rfl ?_
      refine z_aload_n (pc2 := 3) rfl rfl rfl ?_
      refine z_getI (pc2 := 6) 0 rfl rfl rfl rfl rfl t56 ?_
      intro v13 e13 r13 k13
      replace k13 : (0 : Int) ≤ v13 ∧ v13 ≤ 1 := k13; clear r13
      replace e13 : q = v13 := by rw [e13]; first | exact (zLq_k hI2 (by decide) hq3) | exact Eq.symm (zLq_k hI2 (by decide) hq3) | (simp [zU]; first | done | exact (zLq_k hI2 (by decide) hq3) | exact Eq.symm (zLq_k hI2 (by decide) hq3) | omega)
      subst e13
      refine z_imul (pc2 := 7) rfl rfl ?_
      refine z_iret rfl rfl ?_
      show zB _ _ _ _ _ _ [_] _ _
      refine z_sipush (pc2 := 7) rfl rfl (by decide) ?_
      refine z_iadd (pc2 := 8) rfl rfl ?_
      refine z_bipush (pc2 := 10) rfl rfl (by decide) ?_
      refine z_iload_n (pc2 := 11) rfl rfl rfl ?_
      refine z_imul (pc2 := 12) rfl rfl ?_
      refine z_iadd (pc2 := 13) rfl rfl ?_
      refine z_iret rfl rfl ?_
      show zB _ _ _ _ _ _ [_, _, _, _] _ _
      refine z_iload (pc2 := 236) rfl rfl rfl ?_
      refine z_iadd (pc2 := 237) rfl rfl ?_
      refine z_iald (pc2 := 238) rfl rfl t57 (by omega) (by omega) (by decide) ?_
      intro v14 e14 r14 k14
      refine z_iast (pc2 := 239) rfl rfl t57 (by omega) (by omega) (by decide) (by omega) (st_mv k14 (by omega) (by omega) (by omega)) ?_
      refine z_iinc (lv2 := [(6, _), (0, _), (1, _), (2, _), (3, _), (4, _), (5, _)]) (pc2 := 242) rfl rfl rfl rfl rfl ?_
      refine z_goto (pc2 := 202) rfl rfl ?_
      refine z_lv (lv2 := [(0, _), (1, _), (2, _), (3, _), (4, _), (5, _), (6, _)]) ⟨rfl, rfl, rfl, rfl, rfl, rfl, rfl, trivial⟩ ?_
      exact ih _ _ _ (by omega) (by repeat (first | exact zLq_rf _ _ | assumption | refine zLq_n ?_ (by omega) | refine zLq_f ?_)) (by omega) (zLs_n hls (by omega) (by omega)) (by omega)
set_option maxHeartbeats 8000000 in
theorem l_lock1 {L : Nat} {xs : Nat → Int32} {n sl : Nat} {T : Nat → zT} {I : Nat → Nat → Int} {P : Nat → Nat → Option Nat} {K : List zV → zH → Prop} {g F v w d q : Int} (hT : ∀ a, 56 ≤ a → a ≤ 90 → T a = zFix a) (hg : 1 ≤ g ∧ g ≤ 12) (hF : 0 ≤ F ∧ F ≤ 11) (hw : 0 ≤ w ∧ w ≤ 89) (hd : 0 ≤ d ∧ d ≤ 720) (hq : 0 ≤ q ∧ q ≤ 1) (hFg : F + g ≤ 12) (hq3 : I 56 3 = q) (h164 : I 57 (56100 * q + 164).toNat = w) (h167 : I 57 (56100 * q + 167).toNat = d) (hd3 : zSum (I 57) (56100 * q + 1901).toNat 2 F.toNat = d) (hwp : zSum (I 57) (56100 * q + 171).toNat 17 g.toNat = w) (hK : ∀ e I2 G2, zFr I I2 → K [.inl e] (n, sl, T, I2, P, G2)) (m : Nat) : ∀ (I2 : Nat → Nat → Int) (G2 : Nat → Nat → Int), ∀ (k : Int), 0 ≤ k ∧ k ≤ 12 → zLq q I I2 → k ≤ g → zLs q F k I I2 → (12 - k).toNat < m → zB zMd L xs 257 80 [(0, .inr (.inl (some 56))), (1, .inl g), (2, .inl F), (3, .inl v), (4, .inl k)] [] (n, sl, T, I2, P, G2) K := by
  have t56 : T 56 = (1, 12, [1]) := hT 56 (by decide) (by decide)
  have t57 : T 57 = (2, 0, [112200, 1]) := hT 57 (by decide) (by decide)
  induction m with
  | zero => intro I2 G2 k hk hI2 hb3 hls hm; omega
  | succ m ih =>
    intro I2 G2 k hk hI2 hb3 hls hm
    refine z_iload (pc2 := 82) rfl rfl rfl ?_
    refine z_iload_n (pc2 := 83) rfl rfl rfl ?_
    refine z_icmp_ge (t := 169) (pc2 := 86) rfl rfl rfl (by omega) (by omega) (fun c1 => ?_) (fun c1 => ?_)
    ·
      refine z_aload_n (pc2 := 170) rfl rfl rfl ?_
      refine z_getP (pc2 := 173) rfl rfl rfl rfl t56 ?_
      intro p2 p2e p2k; replace p2k : p2 = some 57 := p2k; clear p2e; subst p2k
      refine z_aload_n (pc2 := 174) rfl rfl rfl ?_
      refine z_callV (y2 := 162) (as := []) (rest := [_]) (pc2 := 177) rfl rfl rfl rfl t56 rfl ?_
      refine z_inl ?_
      refine z_lv (lv2 := [(0, _)]) ⟨rfl, trivial⟩ ?_
      refine z_ldc (56100) (pc2 := 2) rfl rfl rfl ?_
      refine z_aload_n (pc2 := 3) rfl rfl rfl ?_
      refine z_getI (pc2 := 6) 0 rfl rfl rfl rfl rfl t56 ?_
      intro v3 e3 r3 k3
      replace k3 : (0 : Int) ≤ v3 ∧ v3 ≤ 1 := k3; clear r3
      replace e3 : q = v3 := by rw [e3]; first | exact (zLq_k hI2 (by decide) hq3) | exact Eq.symm (zLq_k hI2 (by decide) hq3) | (simp [zU]; first | done | exact (zLq_k hI2 (by decide) hq3) | exact Eq.symm (zLq_k hI2 (by decide) hq3) | omega)
      subst e3
      refine z_imul (pc2 := 7) rfl rfl ?_
      refine z_iret rfl rfl ?_
      show zB _ _ _ _ _ _ [_, _] _ _
      refine z_sipush (pc2 := 180) rfl rfl (by decide) ?_
      refine z_iadd (pc2 := 181) rfl rfl ?_
      refine z_iald (pc2 := 182) rfl rfl t57 (by omega) (by omega) (by decide) ?_
      intro v4 e4 r4 k4
      replace k4 := ok_lines k4 (by omega); clear r4
      replace e4 : w = v4 := by rw [e4]; first | exact (zLq_57 hI2 (by omega) h164) | exact Eq.symm (zLq_57 hI2 (by omega) h164) | (simp [zU]; first | done | exact (zLq_57 hI2 (by omega) h164) | exact Eq.symm (zLq_57 hI2 (by omega) h164) | omega)
      subst e4
      refine z_istore (lv2 := [(4, _), (0, _), (1, _), (2, _), (3, _)]) (pc2 := 184) rfl rfl rfl rfl ?_
      refine z_aload_n (pc2 := 185) rfl rfl rfl ?_
      refine z_getP (pc2 := 188) rfl rfl rfl rfl t56 ?_
      intro p5 p5e p5k; replace p5k : p5 = some 57 := p5k; clear p5e; subst p5k
      refine z_aload_n (pc2 := 189) rfl rfl rfl ?_
      refine z_callV (y2 := 162) (as := []) (rest := [_]) (pc2 := 192) rfl rfl rfl rfl t56 rfl ?_
      refine z_inl ?_
      refine z_lv (lv2 := [(0, _)]) ⟨rfl, trivial⟩ ?_
      refine z_ldc (56100) (pc2 := 2) rfl rfl rfl ?_
      refine z_aload_n (pc2 := 3) rfl rfl rfl ?_
      refine z_getI (pc2 := 6) 0 rfl rfl rfl rfl rfl t56 ?_
      intro v6 e6 r6 k6
      replace k6 : (0 : Int) ≤ v6 ∧ v6 ≤ 1 := k6; clear r6
      replace e6 : q = v6 := by rw [e6]; first | exact (zLq_k hI2 (by decide) hq3) | exact Eq.symm (zLq_k hI2 (by decide) hq3) | (simp [zU]; first | done | exact (zLq_k hI2 (by decide) hq3) | exact Eq.symm (zLq_k hI2 (by decide) hq3) | omega)
      subst e6
      refine z_imul (pc2 := 7) rfl rfl ?_
      refine z_iret rfl rfl ?_
      show zB _ _ _ _ _ _ [_, _] _ _
      refine z_sipush (pc2 := 195) rfl rfl (by decide) ?_
      refine z_iadd (pc2 := 196) rfl rfl ?_
      refine z_iald (pc2 := 197) rfl rfl t57 (by omega) (by omega) (by decide) ?_
      intro v7 e7 r7 k7
      replace k7 := ok_sets k7 (by omega); clear r7
      replace e7 : d = v7 := by rw [e7]; first | exact (zLq_57 hI2 (by omega) h167) | exact Eq.symm (zLq_57 hI2 (by omega) h167) | (simp [zU]; first | done | exact (zLq_57 hI2 (by omega) h167) | exact Eq.symm (zLq_57 hI2 (by omega) h167) | omega)
      subst e7
      refine z_istore (lv2 := [(5, _), (4, _), (0, _), (1, _), (2, _), (3, _)]) (pc2 := 199) rfl rfl rfl rfl ?_
      refine z_iconst (pc2 := 200) rfl rfl ?_
      refine z_istore (lv2 := [(6, _), (5, _), (4, _), (0, _), (1, _), (2, _), (3, _)]) (pc2 := 202) rfl rfl rfl rfl ?_
      refine zB_wf (fun hw => ?_)
      have hls2 : zLs q F g I I2 := by rw [show g = k by omega]; exact hls
      have hdw := zLs_720 hT hw (by omega) (by omega) (by omega) hFg hls2 hd3 hwp
      refine z_lv (lv2 := [(0, _), (1, _), (2, _), (3, _), (4, _), (5, _), (6, _)]) ⟨rfl, rfl, rfl, rfl, rfl, rfl, rfl, trivial⟩ ?_
      exact l_lock2 (q := q) hT (by omega) (by omega) (by omega) (by omega) (by omega) hFg hq3 h164 h167 hd3 hwp hdw hK _ _ _ _ (by omega) hI2 (by omega) hls2 (Nat.lt_succ_self _)
    ·
      refine z_aload_n (pc2 := 87) rfl rfl rfl ?_
      refine z_dup (pc2 := 88) rfl rfl rfl ?_
      refine z_getI (pc2 := 91) 0 rfl rfl rfl rfl rfl t56 ?_
      intro v8 e8 r8 k8
      clear e8
      clear k8
      refine z_iconst (pc2 := 92) rfl rfl ?_
      refine z_iadd (pc2 := 93) rfl rfl ?_
      refine z_putI_any (pc2 := 96) rfl rfl rfl rfl rfl rfl t56 (fun _ _ => True.intro) (fun u9 u9r => ?_); clear u9r
      refine z_aload_n (pc2 := 97) rfl rfl rfl ?_
      refine z_getP (pc2 := 100) rfl rfl rfl rfl t56 ?_
      intro p10 p10e p10k; replace p10k : p10 = some 57 := p10k; clear p10e; subst p10k
      refine z_aload_n (pc2 := 101) rfl rfl rfl ?_
      refine z_callV (y2 := 162) (as := []) (rest := [_]) (pc2 := 104) rfl rfl rfl rfl t56 rfl ?_
      refine z_inl ?_
      refine z_lv (lv2 := [(0, _)]) ⟨rfl, trivial⟩ ?_
      refine z_ldc (56100) (pc2 := 2) rfl rfl rfl ?_
      refine z_aload_n (pc2 := 3) rfl rfl rfl ?_
      refine z_getI (pc2 := 6) 0 rfl rfl rfl rfl rfl t56 ?_
      intro v11 e11 r11 k11
      replace k11 : (0 : Int) ≤ v11 ∧ v11 ≤ 1 := k11; clear r11
      replace e11 : q = v11 := by rw [e11]; first | exact (zLq_k hI2 (by decide) hq3) | exact Eq.symm (zLq_k hI2 (by decide) hq3) | (simp [zU]; first | done | exact (zLq_k hI2 (by decide) hq3) | exact Eq.symm (zLq_k hI2 (by decide) hq3) | omega)
      subst e11
      refine z_imul (pc2 := 7) rfl rfl ?_
      refine z_iret rfl rfl ?_
      show zB _ _ _ _ _ _ [_, _] _ _
      refine z_sipush (pc2 := 107) rfl rfl (by decide) ?_
      refine z_iadd (pc2 := 108) rfl rfl ?_
      refine z_iconst (pc2 := 109) rfl rfl ?_
      refine z_iload_n (pc2 := 110) rfl rfl rfl ?_
      refine z_iload (pc2 := 112) rfl rfl rfl ?_
      refine z_iadd (pc2 := 113) rfl rfl ?_
      refine z_imul (pc2 := 114) rfl rfl ?_
      refine z_iadd (pc2 := 115) rfl rfl ?_
      refine z_aload_n (pc2 := 116) rfl rfl rfl ?_
      refine z_getI (pc2 := 119) 0 rfl rfl rfl rfl rfl t56 ?_
      intro v12 e12 r12 k12
      clear e12
      clear k12
      refine z_iast (pc2 := 120) rfl rfl t57 (by omega) (by omega) (by decide) (by omega) (st_fnum (by omega)) ?_
      refine z_aload_n (pc2 := 121) rfl rfl rfl ?_
      refine z_getP (pc2 := 124) rfl rfl rfl rfl t56 ?_
      intro p13 p13e p13k; replace p13k : p13 = some 57 := p13k; clear p13e; subst p13k
      refine z_aload_n (pc2 := 125) rfl rfl rfl ?_
      refine z_callV (y2 := 162) (as := []) (rest := [_]) (pc2 := 128) rfl rfl rfl rfl t56 rfl ?_
      refine z_inl ?_
      refine z_lv (lv2 := [(0, _)]) ⟨rfl, trivial⟩ ?_
      refine z_ldc (56100) (pc2 := 2) rfl rfl rfl ?_
      refine z_aload_n (pc2 := 3) rfl rfl rfl ?_
      refine z_getI (pc2 := 6) 0 rfl rfl rfl rfl rfl t56 ?_
      intro v14 e14 r14 k14
      replace k14 : (0 : Int) ≤ v14 ∧ v14 ≤ 1 := k14; clear r14
      replace e14 : q = v14 := by rw [e14]; first | exact (zLq_k hI2 (by decide) hq3) | exact Eq.symm (zLq_k hI2 (by decide) hq3) | (simp [zU]; first | done | exact (zLq_k hI2 (by decide) hq3) | exact Eq.symm (zLq_k hI2 (by decide) hq3) | omega)
      subst e14
      refine z_imul (pc2 := 7) rfl rfl ?_
      refine z_iret rfl rfl ?_
      show zB _ _ _ _ _ _ [_, _] _ _
      refine z_sipush (pc2 := 131) rfl rfl (by decide) ?_
      refine z_iadd (pc2 := 132) rfl rfl ?_
      refine z_iconst (pc2 := 133) rfl rfl ?_
      refine z_iload_n (pc2 := 134) rfl rfl rfl ?_
      refine z_iload (pc2 := 136) rfl rfl rfl ?_
      refine z_iadd (pc2 := 137) rfl rfl ?_
      refine z_imul (pc2 := 138) rfl rfl ?_
      refine z_iadd (pc2 := 139) rfl rfl ?_
      refine z_iconst (pc2 := 140) rfl rfl ?_
      refine z_iadd (pc2 := 141) rfl rfl ?_
      refine z_aload_n (pc2 := 142) rfl rfl rfl ?_
      refine z_getP (pc2 := 145) rfl rfl rfl rfl t56 ?_
      intro p15 p15e p15k; replace p15k : p15 = some 57 := p15k; clear p15e; subst p15k
      refine z_aload_n (pc2 := 146) rfl rfl rfl ?_
      refine z_callV (y2 := 162) (as := []) (rest := [_, _, _]) (pc2 := 149) rfl rfl rfl rfl t56 rfl ?_
      refine z_inl ?_
      refine z_lv (lv2 := [(0, _)]) ⟨rfl, trivial⟩ ?_
      refine z_ldc (56100) (pc2 := 2) rfl rfl rfl ?_
      refine z_aload_n (pc2 := 3) rfl rfl rfl ?_
      refine z_getI (pc2 := 6) 0 rfl rfl rfl rfl rfl t56 ?_
      intro v16 e16 r16 k16
      replace k16 : (0 : Int) ≤ v16 ∧ v16 ≤ 1 := k16; clear r16
      replace e16 : q = v16 := by rw [e16]; first | exact (zLq_k hI2 (by decide) hq3) | exact Eq.symm (zLq_k hI2 (by decide) hq3) | (simp [zU]; first | done | exact (zLq_k hI2 (by decide) hq3) | exact Eq.symm (zLq_k hI2 (by decide) hq3) | omega)
      subst e16
      refine z_imul (pc2 := 7) rfl rfl ?_
      refine z_iret rfl rfl ?_
      show zB _ _ _ _ _ _ [_, _, _, _] _ _
      refine z_sipush (pc2 := 152) rfl rfl (by decide) ?_
      refine z_iadd (pc2 := 153) rfl rfl ?_
      refine z_bipush (pc2 := 155) rfl rfl (by decide) ?_
      refine z_iload (pc2 := 157) rfl rfl rfl ?_
      refine z_imul (pc2 := 158) rfl rfl ?_
      refine z_iadd (pc2 := 159) rfl rfl ?_
      refine z_iconst (pc2 := 160) rfl rfl ?_
      refine z_iadd (pc2 := 161) rfl rfl ?_
      refine z_iald (pc2 := 162) rfl rfl t57 (by omega) (by omega) (by decide) ?_
      intro v17 e17 r17 k17
      replace k17 := ok_pm k17 (by omega); clear r17
      refine z_iast (pc2 := 163) rfl rfl t57 (by omega) (by omega) (by decide) (by omega) (st_fl (by omega) (by omega)) ?_
      refine z_iinc (lv2 := [(4, _), (0, _), (1, _), (2, _), (3, _)]) (pc2 := 166) rfl rfl rfl rfl rfl ?_
      refine z_goto (pc2 := 80) rfl rfl ?_
      refine z_lv (lv2 := [(0, _), (1, _), (2, _), (3, _), (4, _)]) ⟨rfl, rfl, rfl, rfl, rfl, trivial⟩ ?_
      exact ih _ _ _ (by omega) (by repeat (first | exact zLq_rf _ _ | assumption | refine zLq_n ?_ (by omega) | refine zLq_f ?_)) (by omega) (zLs_s (by omega) (by omega) (by omega) hI2 hls (by assumption) (by omega) (by omega) (by omega)) (by omega)
set_option maxHeartbeats 8000000 in
theorem m_lock {L : Nat} {xs : Nat → Int32} {n sl : Nat} {T : Nat → zT} {I : Nat → Nat → Int} {P : Nat → Nat → Option Nat} {G : Nat → Nat → Int} {K : List zV → zH → Prop} (hT : ∀ a, 56 ≤ a → a ≤ 90 → T a = zFix a) (hrl : zRl I) (hK : ∀ e I2 G2, zFr I I2 → K [.inl e] (n, sl, T, I2, P, G2)) : zX zMd L xs 257 [.inr (.inl (some 56))] (n, sl, T, I, P, G) K := by
  have t56 : T 56 = (1, 12, [1]) := hT 56 (by decide) (by decide)
  have t57 : T 57 = (2, 0, [112200, 1]) := hT 57 (by decide) (by decide)
  refine z_inl ?_
  refine z_lv (lv2 := [(0, _)]) ⟨rfl, trivial⟩ ?_
  refine z_aload_n (pc2 := 1) rfl rfl rfl ?_
  refine z_getP (pc2 := 4) rfl rfl rfl rfl t56 ?_
  intro p1 p1e p1k; replace p1k : p1 = some 57 := p1k; clear p1e; subst p1k
  refine z_aload_n (pc2 := 5) rfl rfl rfl ?_
  refine z_callV (y2 := 162) (as := []) (rest := [_]) (pc2 := 8) rfl rfl rfl rfl t56 rfl ?_
  refine z_inl ?_
  refine z_lv (lv2 := [(0, _)]) ⟨rfl, trivial⟩ ?_
  refine z_ldc (56100) (pc2 := 2) rfl rfl rfl ?_
  refine z_aload_n (pc2 := 3) rfl rfl rfl ?_
  refine z_getI (pc2 := 6) 0 rfl rfl rfl rfl rfl t56 ?_
  intro v2 e2 r2 k2
  replace k2 : (0 : Int) ≤ v2 ∧ v2 ≤ 1 := k2; clear r2
  refine z_imul (pc2 := 7) rfl rfl ?_
  refine z_iret rfl rfl ?_
  show zB _ _ _ _ _ _ [_, _] _ _
  refine z_sipush (pc2 := 11) rfl rfl (by decide) ?_
  refine z_iadd (pc2 := 12) rfl rfl ?_
  refine z_iald (pc2 := 13) rfl rfl t57 (by omega) (by omega) (by decide) ?_
  intro v3 e3 r3 k3
  replace k3 := ok_lines k3 (by omega); clear r3
  refine z_istore_n (lv2 := [(1, _), (0, _)]) (pc2 := 14) rfl rfl rfl rfl ?_
  refine z_iload_n (pc2 := 15) rfl rfl rfl ?_
  refine z_if_ne (t := 25) (pc2 := 18) rfl rfl rfl (by omega) (fun c4 => ?_) (fun c4 => ?_)
  ·
    refine z_aload_n (pc2 := 26) rfl rfl rfl ?_
    refine z_getP (pc2 := 29) rfl rfl rfl rfl t56 ?_
    intro p5 p5e p5k; replace p5k : p5 = some 57 := p5k; clear p5e; subst p5k
    refine z_aload_n (pc2 := 30) rfl rfl rfl ?_
    refine z_callV (y2 := 162) (as := []) (rest := [_]) (pc2 := 33) rfl rfl rfl rfl t56 rfl ?_
    refine z_inl ?_
    refine z_lv (lv2 := [(0, _)]) ⟨rfl, trivial⟩ ?_
    refine z_ldc (56100) (pc2 := 2) rfl rfl rfl ?_
    refine z_aload_n (pc2 := 3) rfl rfl rfl ?_
    refine z_getI (pc2 := 6) 0 rfl rfl rfl rfl rfl t56 ?_
    intro v6 e6 r6 k6
    replace k6 : (0 : Int) ≤ v6 ∧ v6 ≤ 1 := k6; clear r6
    replace e6 : v2 = v6 := by rw [e6]; first | exact e2 | exact Eq.symm e2 | (simp [zU]; first | done | exact e2 | exact Eq.symm e2 | omega)
    subst e6
    refine z_imul (pc2 := 7) rfl rfl ?_
    refine z_iret rfl rfl ?_
    show zB _ _ _ _ _ _ [_, _] _ _
    refine z_sipush (pc2 := 36) rfl rfl (by decide) ?_
    refine z_iadd (pc2 := 37) rfl rfl ?_
    refine z_iald (pc2 := 38) rfl rfl t57 (by omega) (by omega) (by decide) ?_
    intro v7 e7 r7 k7
    replace k7 := ok_formes k7 (by omega); clear r7
    refine z_istore_n (lv2 := [(2, _), (1, _), (0, _)]) (pc2 := 39) rfl rfl rfl rfl ?_
    refine z_iload_n (pc2 := 40) rfl rfl rfl ?_
    refine z_iload_n (pc2 := 41) rfl rfl rfl ?_
    refine z_iadd (pc2 := 42) rfl rfl ?_
    refine z_bipush (pc2 := 44) rfl rfl (by decide) ?_
    refine z_icmp_gt (t := 59) (pc2 := 47) rfl rfl rfl (by omega) (by omega) (fun c8 => ?_) (fun c8 => ?_)
    ·
      refine z_aload_n (pc2 := 60) rfl rfl rfl ?_
      refine z_bipush (pc2 := 62) rfl rfl (by decide) ?_
      refine z_callV (y2 := 159) (as := [_]) (rest := []) (pc2 := 65) rfl rfl rfl rfl t56 rfl ?_
      refine z_inl ?_
      refine z_lv (lv2 := [(0, _), (1, _)]) ⟨rfl, rfl, trivial⟩ ?_
      refine z_aload_n (pc2 := 1) rfl rfl rfl ?_
      refine z_iload_n (pc2 := 2) rfl rfl rfl ?_
      refine z_putI (pc2 := 5) rfl rfl rfl rfl rfl rfl t56 (by omega) True.intro ?_
      refine z_iload_n (pc2 := 6) rfl rfl rfl ?_
      refine z_iret rfl rfl ?_
      show zB _ _ _ _ _ _ [_] _ _
      refine z_iret rfl rfl ?_
      exact hK _ _ _ (by repeat (first | exact zFr_rf _ | assumption | refine zFr_a ?_ (by decide) | refine zFr_f ?_ (by decide) | refine zFr_n ?_ (by omega) | refine zFr_h ?_ (by omega) | refine zFr_tok ?_ (by omega)))
    ·
      refine z_aload_n (pc2 := 48) rfl rfl rfl ?_
      refine z_getI (pc2 := 51) 0 rfl rfl rfl rfl rfl t56 ?_
      intro v9 e9 r9 k9
      clear e9
      clear k9
      refine z_iload_n (pc2 := 52) rfl rfl rfl ?_
      refine z_iadd (pc2 := 53) rfl rfl ?_
      refine z_sipush (pc2 := 56) rfl rfl (by decide) ?_
      refine z_icmp_any (t := 66) (pc2 := 59) rfl rfl rfl ?_ ?_
      ·
        refine z_aload_n (pc2 := 67) rfl rfl rfl ?_
        refine z_callV (y2 := 167) (as := []) (rest := []) (pc2 := 70) rfl rfl rfl rfl t56 rfl ?_
        refine m_keep hT (fun Iw10 Gw10 fw10 ow10 => ?_)
        replace fw10 := zFr_tr (I := I) (by repeat (first | exact zFr_rf _ | assumption | refine zFr_a ?_ (by decide) | refine zFr_f ?_ (by decide) | refine zFr_n ?_ (by omega) | refine zFr_h ?_ (by omega) | refine zFr_tok ?_ (by omega))) fw10
        show zB _ _ _ _ _ _ [] _ _
        refine z_aload_n (pc2 := 71) rfl rfl rfl ?_
        refine z_getI (pc2 := 74) 0 rfl rfl rfl rfl rfl t56 ?_
        intro v11 e11 r11 k11
        clear e11
        clear k11
        refine z_iconst (pc2 := 75) rfl rfl ?_
        refine z_iadd (pc2 := 76) rfl rfl ?_
        refine z_istore_n (lv2 := [(3, _), (2, _), (1, _), (0, _)]) (pc2 := 77) rfl rfl rfl rfl ?_
        refine z_iconst (pc2 := 78) rfl rfl ?_
        refine z_istore (lv2 := [(4, _), (3, _), (2, _), (1, _), (0, _)]) (pc2 := 80) rfl rfl rfl rfl ?_
        refine zB_wf (fun hw => ?_)
        obtain ⟨hw4, hw7, hsd, hsw⟩ := zLq_in hT hw (fw10.2 hrl) (q := v2) (g := v3) (F := v7) (by omega) ((ow10 57 _ (by omega) (by omega)).trans (Eq.symm (by assumption))) ((ow10 57 _ (by omega) (by omega)).trans (Eq.symm (by assumption))) (by omega)
        refine z_lv (lv2 := [(0, _), (1, _), (2, _), (3, _), (4, _)]) ⟨rfl, rfl, rfl, rfl, rfl, trivial⟩ ?_
        exact l_lock1 (q := v2) (w := Iw10 57 (56100 * v2 + 164).toNat) (d := Iw10 57 (56100 * v2 + 167).toNat) hT (by omega) (by omega) hw4 hw7 (by omega) (by omega) ((ow10 56 3 (by omega) (by omega)).trans (Eq.symm (by assumption))) rfl rfl hsd hsw (fun e I9 G9 h9 => hK e I9 G9 (zFr_tr fw10 h9)) _ _ _ _ (by omega) (zLq_rf _ _) (by omega) zLs_0 (Nat.lt_succ_self _)
      ·
        refine z_aload_n (pc2 := 60) rfl rfl rfl ?_
        refine z_bipush (pc2 := 62) rfl rfl (by decide) ?_
        refine z_callV (y2 := 159) (as := [_]) (rest := []) (pc2 := 65) rfl rfl rfl rfl t56 rfl ?_
        refine z_inl ?_
        refine z_lv (lv2 := [(0, _), (1, _)]) ⟨rfl, rfl, trivial⟩ ?_
        refine z_aload_n (pc2 := 1) rfl rfl rfl ?_
        refine z_iload_n (pc2 := 2) rfl rfl rfl ?_
        refine z_putI (pc2 := 5) rfl rfl rfl rfl rfl rfl t56 (by omega) True.intro ?_
        refine z_iload_n (pc2 := 6) rfl rfl rfl ?_
        refine z_iret rfl rfl ?_
        show zB _ _ _ _ _ _ [_] _ _
        refine z_iret rfl rfl ?_
        exact hK _ _ _ (by repeat (first | exact zFr_rf _ | assumption | refine zFr_a ?_ (by decide) | refine zFr_f ?_ (by decide) | refine zFr_n ?_ (by omega) | refine zFr_h ?_ (by omega) | refine zFr_tok ?_ (by omega)))
  ·
    refine z_aload_n (pc2 := 19) rfl rfl rfl ?_
    refine z_bipush (pc2 := 21) rfl rfl (by decide) ?_
    refine z_callV (y2 := 159) (as := [_]) (rest := []) (pc2 := 24) rfl rfl rfl rfl t56 rfl ?_
    refine z_inl ?_
    refine z_lv (lv2 := [(0, _), (1, _)]) ⟨rfl, rfl, trivial⟩ ?_
    refine z_aload_n (pc2 := 1) rfl rfl rfl ?_
    refine z_iload_n (pc2 := 2) rfl rfl rfl ?_
    refine z_putI (pc2 := 5) rfl rfl rfl rfl rfl rfl t56 (by omega) True.intro ?_
    refine z_iload_n (pc2 := 6) rfl rfl rfl ?_
    refine z_iret rfl rfl ?_
    show zB _ _ _ _ _ _ [_] _ _
    refine z_iret rfl rfl ?_
    exact hK _ _ _ (by repeat (first | exact zFr_rf _ | assumption | refine zFr_a ?_ (by decide) | refine zFr_f ?_ (by decide) | refine zFr_n ?_ (by omega) | refine zFr_h ?_ (by omega) | refine zFr_tok ?_ (by omega)))
