/-! the reference: a forme goes -/
set_option maxHeartbeats 8000000 in
theorem l_distribute3 {L : Nat} {xs : Nat → Int32} {n sl : Nat} {T : Nat → zT} {I : Nat → Nat → Int} {P : Nat → Nat → Option Nat} {K : List zV → zH → Prop} {c s q F : Int} (hT : ∀ a, 56 ≤ a → a ≤ 90 → T a = zFix a) (hc : 0 ≤ c ∧ c ≤ 11) (hq : 0 ≤ q ∧ q ≤ 1) (hF : 0 ≤ F ∧ F ≤ 11) (hq3 : I 56 3 = q) (hF3 : I 57 (56100 * q + 166).toNat = F) (hcF : c ≤ F) (hK : ∀ e I2 I3 G2, zDc q c (2 * F) I I2 → zFr I2 I3 → K [.inl e] (n, sl, T, I3, P, G2)) (m : Nat) : ∀ (I2 : Nat → Nat → Int) (G2 : Nat → Nat → Int), ∀ (i : Int), 0 ≤ i ∧ i ≤ 22 → zDc q c i I I2 → 2 * c ≤ i ∧ i ≤ 2 * F → (22 - i).toNat < m → zB zMd L xs 262 191 [(0, .inr (.inl (some 56))), (2, .inl c), (5, .inl s), (7, .inl i)] [] (n, sl, T, I2, P, G2) K := by
  have t56 : T 56 = (1, 12, [1]) := hT 56 (by decide) (by decide)
  have t57 : T 57 = (2, 0, [112200, 1]) := hT 57 (by decide) (by decide)
  induction m with
  | zero => intro I2 G2 i hi hI2 hb3 hm; omega
  | succ m ih =>
    intro I2 G2 i hi hI2 hb3 hm
    refine z_iload (pc2 := 193) rfl rfl rfl ?_
    refine z_iconst (pc2 := 194) rfl rfl ?_
    refine z_aload_n (pc2 := 195) rfl rfl rfl ?_
    refine z_getP (pc2 := 198) rfl rfl rfl rfl t56 ?_
    intro p1 p1e p1k; replace p1k : p1 = some 57 := p1k; clear p1e; subst p1k
    refine z_aload_n (pc2 := 199) rfl rfl rfl ?_
    refine z_callV (y2 := 162) (as := []) (rest := [_, _, _]) (pc2 := 202) rfl rfl rfl rfl t56 rfl ?_
    refine z_inl ?_
    refine z_lv (lv2 := [(0, _)]) ⟨rfl, trivial⟩ ?_
    refine z_ldc (56100) (pc2 := 2) rfl rfl rfl ?_
    refine z_aload_n (pc2 := 3) rfl rfl rfl ?_
    refine z_getI (pc2 := 6) 0 rfl rfl rfl rfl rfl t56 ?_
    intro v2 e2 r2 k2
    replace k2 : (0 : Int) ≤ v2 ∧ v2 ≤ 1 := k2; clear r2
    replace e2 : q = v2 := by rw [e2]; first | exact (zDc_k hI2 hq3) | exact Eq.symm (zDc_k hI2 hq3) | (simp [zU]; first | done | exact (zDc_k hI2 hq3) | exact Eq.symm (zDc_k hI2 hq3) | omega)
    subst e2
    refine z_imul (pc2 := 7) rfl rfl ?_
    refine z_iret rfl rfl ?_
    show zB _ _ _ _ _ _ [_, _, _, _] _ _
    refine z_sipush (pc2 := 205) rfl rfl (by decide) ?_
    refine z_iadd (pc2 := 206) rfl rfl ?_
    refine z_iald (pc2 := 207) rfl rfl t57 (by omega) (by omega) (by decide) ?_
    intro v3 e3 r3 k3
    replace k3 := ok_formes k3 (by omega); clear r3
    replace e3 : F = v3 := by rw [e3]; first | exact (zDc_57 hI2 (by omega) hF3) | exact Eq.symm (zDc_57 hI2 (by omega) hF3) | (simp [zU]; first | done | exact (zDc_57 hI2 (by omega) hF3) | exact Eq.symm (zDc_57 hI2 (by omega) hF3) | omega)
    subst e3
    refine z_imul (pc2 := 208) rfl rfl ?_
    refine z_icmp_ge (t := 251) (pc2 := 211) rfl rfl rfl (by omega) (by omega) (fun c4 => ?_) (fun c4 => ?_)
    ·
      refine z_aload_n (pc2 := 252) rfl rfl rfl ?_
      refine z_iload (pc2 := 254) rfl rfl rfl ?_
      refine z_callV (y2 := 158) (as := [_]) (rest := []) (pc2 := 257) rfl rfl rfl rfl t56 rfl ?_
      refine z_inl ?_
      refine z_lv (lv2 := [(0, _), (1, _)]) ⟨rfl, rfl, trivial⟩ ?_
      refine z_aload_n (pc2 := 1) rfl rfl rfl ?_
      refine z_iconst (pc2 := 2) rfl rfl ?_
      refine z_putI (pc2 := 5) rfl rfl rfl rfl rfl rfl t56 (by omega) True.intro ?_
      refine z_iload_n (pc2 := 6) rfl rfl rfl ?_
      refine z_iret rfl rfl ?_
      show zB _ _ _ _ _ _ [_] _ _
      refine z_iret rfl rfl ?_
      exact hK _ I2 _ _ (by rw [show 2 * F = i by omega]; exact hI2) (by repeat (first | exact zFr_rf _ | refine zFr_f ?_ (by decide)))
    ·
      refine z_aload_n (pc2 := 212) rfl rfl rfl ?_
      refine z_getP (pc2 := 215) rfl rfl rfl rfl t56 ?_
      intro p5 p5e p5k; replace p5k : p5 = some 57 := p5k; clear p5e; subst p5k
      refine z_aload_n (pc2 := 216) rfl rfl rfl ?_
      refine z_callV (y2 := 162) (as := []) (rest := [_]) (pc2 := 219) rfl rfl rfl rfl t56 rfl ?_
      refine z_inl ?_
      refine z_lv (lv2 := [(0, _)]) ⟨rfl, trivial⟩ ?_
      refine z_ldc (56100) (pc2 := 2) rfl rfl rfl ?_
      refine z_aload_n (pc2 := 3) rfl rfl rfl ?_
      refine z_getI (pc2 := 6) 0 rfl rfl rfl rfl rfl t56 ?_
      intro v6 e6 r6 k6
      replace k6 : (0 : Int) ≤ v6 ∧ v6 ≤ 1 := k6; clear r6
      replace e6 : q = v6 := by rw [e6]; first | exact (zDc_k hI2 hq3) | exact Eq.symm (zDc_k hI2 hq3) | (simp [zU]; first | done | exact (zDc_k hI2 hq3) | exact Eq.symm (zDc_k hI2 hq3) | omega)
      subst e6
      refine z_imul (pc2 := 7) rfl rfl ?_
      refine z_iret rfl rfl ?_
      show zB _ _ _ _ _ _ [_, _] _ _
      refine z_sipush (pc2 := 222) rfl rfl (by decide) ?_
      refine z_iadd (pc2 := 223) rfl rfl ?_
      refine z_iload (pc2 := 225) rfl rfl rfl ?_
      refine z_iadd (pc2 := 226) rfl rfl ?_
      refine z_aload_n (pc2 := 227) rfl rfl rfl ?_
      refine z_getP (pc2 := 230) rfl rfl rfl rfl t56 ?_
      intro p7 p7e p7k; replace p7k : p7 = some 57 := p7k; clear p7e; subst p7k
      refine z_aload_n (pc2 := 231) rfl rfl rfl ?_
      refine z_callV (y2 := 162) (as := []) (rest := [_, _, _]) (pc2 := 234) rfl rfl rfl rfl t56 rfl ?_
      refine z_inl ?_
      refine z_lv (lv2 := [(0, _)]) ⟨rfl, trivial⟩ ?_
      refine z_ldc (56100) (pc2 := 2) rfl rfl rfl ?_
      refine z_aload_n (pc2 := 3) rfl rfl rfl ?_
      refine z_getI (pc2 := 6) 0 rfl rfl rfl rfl rfl t56 ?_
      intro v8 e8 r8 k8
      replace k8 : (0 : Int) ≤ v8 ∧ v8 ≤ 1 := k8; clear r8
      replace e8 : q = v8 := by rw [e8]; first | exact (zDc_k hI2 hq3) | exact Eq.symm (zDc_k hI2 hq3) | (simp [zU]; first | done | exact (zDc_k hI2 hq3) | exact Eq.symm (zDc_k hI2 hq3) | omega)
      subst e8
      refine z_imul (pc2 := 7) rfl rfl ?_
      refine z_iret rfl rfl ?_
      show zB _ _ _ _ _ _ [_, _, _, _] _ _
      refine z_sipush (pc2 := 237) rfl rfl (by decide) ?_
      refine z_iadd (pc2 := 238) rfl rfl ?_
      refine z_iload (pc2 := 240) rfl rfl rfl ?_
      refine z_iadd (pc2 := 241) rfl rfl ?_
      refine z_iconst (pc2 := 242) rfl rfl ?_
      refine z_iadd (pc2 := 243) rfl rfl ?_
      refine z_iald (pc2 := 244) rfl rfl t57 (by omega) (by omega) (by decide) ?_
      intro v9 e9 r9 k9
      refine z_iast (pc2 := 245) rfl rfl t57 (by omega) (by omega) (by decide) (by omega) (st_fm k9 (by omega) (by omega) (by omega)) ?_
      refine z_iinc (lv2 := [(7, _), (0, _), (2, _), (5, _)]) (pc2 := 248) rfl rfl rfl rfl rfl ?_
      refine z_goto (pc2 := 191) rfl rfl ?_
      refine z_lv (lv2 := [(0, _), (2, _), (5, _), (7, _)]) ⟨rfl, rfl, rfl, rfl, trivial⟩ ?_
      exact ih _ _ _ (by omega) (zDc_s hI2 (by omega) (by omega) (by omega) (by assumption) rfl rfl) (by omega) (by omega)
set_option maxHeartbeats 8000000 in
theorem l_distribute2 {L : Nat} {xs : Nat → Int32} {n sl : Nat} {T : Nat → zT} {I : Nat → Nat → Int} {P : Nat → Nat → Option Nat} {K : List zV → zH → Prop} {c f y s u q F d : Int} (hT : ∀ a, 56 ≤ a → a ≤ 90 → T a = zFix a) (hc : 0 ≤ c ∧ c ≤ 11) (hf : 0 ≤ f ∧ f ≤ 660) (hy : 0 ≤ y ∧ y ≤ 60) (hu : 0 ≤ u ∧ u ≤ 720) (hq : 0 ≤ q ∧ q ≤ 1) (hF : 1 ≤ F ∧ F ≤ 12) (hd : 0 ≤ d ∧ d ≤ 720) (hq3 : I 56 3 = q) (hF3 : I 57 (56100 * q + 166).toNat = F) (hd3 : I 57 (56100 * q + 167).toNat = d) (hy : y = I 57 (56100 * q + 1901 + 2 * c).toNat) (hcF : c < F) (hfd : f + y ≤ d) (hu2 : u = d - f - y) (hK : ∀ e I2 G2, zFr I I2 → K [.inl e] (n, sl, T, I2, P, G2)) (m : Nat) : ∀ (I2 : Nat → Nat → Int) (G2 : Nat → Nat → Int), ∀ (i : Int), 0 ≤ i ∧ i ≤ 47520 → zDb q I I2 → i ≤ 66 * u → (47520 - i).toNat < m → zB zMd L xs 262 106 [(0, .inr (.inl (some 56))), (2, .inl c), (3, .inl f), (4, .inl y), (5, .inl s), (6, .inl u), (7, .inl i)] [] (n, sl, T, I2, P, G2) K := by
  have t56 : T 56 = (1, 12, [1]) := hT 56 (by decide) (by decide)
  have t57 : T 57 = (2, 0, [112200, 1]) := hT 57 (by decide) (by decide)
  induction m with
  | zero => intro I2 G2 i hi hI2 hb3 hm; omega
  | succ m ih =>
    intro I2 G2 i hi hI2 hb3 hm
    refine z_iload (pc2 := 108) rfl rfl rfl ?_
    refine z_bipush (pc2 := 110) rfl rfl (by decide) ?_
    refine z_iload (pc2 := 112) rfl rfl rfl ?_
    refine z_imul (pc2 := 113) rfl rfl ?_
    refine z_icmp_ge (t := 151) (pc2 := 116) rfl rfl rfl (by omega) (by omega) (fun c1 => ?_) (fun c1 => ?_)
    ·
      refine z_aload_n (pc2 := 152) rfl rfl rfl ?_
      refine z_getP (pc2 := 155) rfl rfl rfl rfl t56 ?_
      intro p2 p2e p2k; replace p2k : p2 = some 57 := p2k; clear p2e; subst p2k
      refine z_aload_n (pc2 := 156) rfl rfl rfl ?_
      refine z_callV (y2 := 162) (as := []) (rest := [_]) (pc2 := 159) rfl rfl rfl rfl t56 rfl ?_
      refine z_inl ?_
      refine z_lv (lv2 := [(0, _)]) ⟨rfl, trivial⟩ ?_
      refine z_ldc (56100) (pc2 := 2) rfl rfl rfl ?_
      refine z_aload_n (pc2 := 3) rfl rfl rfl ?_
      refine z_getI (pc2 := 6) 0 rfl rfl rfl rfl rfl t56 ?_
      intro v3 e3 r3 k3
      replace k3 : (0 : Int) ≤ v3 ∧ v3 ≤ 1 := k3; clear r3
      replace e3 : q = v3 := by rw [e3]; first | exact (zDb_k hI2 hq3) | exact Eq.symm (zDb_k hI2 hq3) | (simp [zU]; first | done | exact (zDb_k hI2 hq3) | exact Eq.symm (zDb_k hI2 hq3) | omega)
      subst e3
      refine z_imul (pc2 := 7) rfl rfl ?_
      refine z_iret rfl rfl ?_
      show zB _ _ _ _ _ _ [_, _] _ _
      refine z_sipush (pc2 := 162) rfl rfl (by decide) ?_
      refine z_iadd (pc2 := 163) rfl rfl ?_
      refine z_dup2 (pc2 := 164) rfl rfl rfl rfl ?_
      refine z_iald (pc2 := 165) rfl rfl t57 (by omega) (by omega) (by decide) ?_
      intro v4 e4 r4 k4
      replace k4 := ok_sets k4 (by omega); clear r4
      replace e4 : d = v4 := by rw [e4]; first | exact (zDb_57 hI2 (by omega) hd3) | exact Eq.symm (zDb_57 hI2 (by omega) hd3) | (simp [zU]; first | done | exact (zDb_57 hI2 (by omega) hd3) | exact Eq.symm (zDb_57 hI2 (by omega) hd3) | omega)
      subst e4
      refine z_iload (pc2 := 167) rfl rfl rfl ?_
      refine z_isub (pc2 := 168) rfl rfl ?_
      refine z_iast (pc2 := 169) rfl rfl t57 (by omega) (by omega) (by decide) (by omega) (st_sets (by omega) (by omega)) ?_
      refine z_aload_n (pc2 := 170) rfl rfl rfl ?_
      refine z_getP (pc2 := 173) rfl rfl rfl rfl t56 ?_
      intro p5 p5e p5k; replace p5k : p5 = some 57 := p5k; clear p5e; subst p5k
      refine z_aload_n (pc2 := 174) rfl rfl rfl ?_
      refine z_callV (y2 := 162) (as := []) (rest := [_]) (pc2 := 177) rfl rfl rfl rfl t56 rfl ?_
      refine z_inl ?_
      refine z_lv (lv2 := [(0, _)]) ⟨rfl, trivial⟩ ?_
      refine z_ldc (56100) (pc2 := 2) rfl rfl rfl ?_
      refine z_aload_n (pc2 := 3) rfl rfl rfl ?_
      refine z_getI (pc2 := 6) 0 rfl rfl rfl rfl rfl t56 ?_
      intro v6 e6 r6 k6
      replace k6 : (0 : Int) ≤ v6 ∧ v6 ≤ 1 := k6; clear r6
      replace e6 : q = v6 := by rw [e6]; first | exact (zDb_k hI2 hq3) | exact Eq.symm (zDb_k hI2 hq3) | (simp [zU]; first | done | exact (zDb_k hI2 hq3) | exact Eq.symm (zDb_k hI2 hq3) | omega)
      subst e6
      refine z_imul (pc2 := 7) rfl rfl ?_
      refine z_iret rfl rfl ?_
      show zB _ _ _ _ _ _ [_, _] _ _
      refine z_sipush (pc2 := 180) rfl rfl (by decide) ?_
      refine z_iadd (pc2 := 181) rfl rfl ?_
      refine z_dup2 (pc2 := 182) rfl rfl rfl rfl ?_
      refine z_iald (pc2 := 183) rfl rfl t57 (by omega) (by omega) (by decide) ?_
      intro v7 e7 r7 k7
      replace k7 := ok_formes k7 (by omega); clear r7
      replace e7 : F = v7 := by rw [e7]; first | exact ((zU_at _ _ _ (by omega)).trans (zDb_57 hI2 (by omega) hF3)) | exact Eq.symm ((zU_at _ _ _ (by omega)).trans (zDb_57 hI2 (by omega) hF3)) | (simp [zU]; first | done | exact ((zU_at _ _ _ (by omega)).trans (zDb_57 hI2 (by omega) hF3)) | exact Eq.symm ((zU_at _ _ _ (by omega)).trans (zDb_57 hI2 (by omega) hF3)) | omega)
      subst e7
      refine z_iconst (pc2 := 184) rfl rfl ?_
      refine z_isub (pc2 := 185) rfl rfl ?_
      refine z_iast (pc2 := 186) rfl rfl t57 (by omega) (by omega) (by decide) (by omega) (st_formes (by omega) (by omega)) ?_
      refine z_iconst (pc2 := 187) rfl rfl ?_
      refine z_iload_n (pc2 := 188) rfl rfl rfl ?_
      refine z_imul (pc2 := 189) rfl rfl ?_
      refine z_istore (lv2 := [(7, _), (0, _), (2, _), (3, _), (4, _), (5, _), (6, _)]) (pc2 := 191) rfl rfl rfl rfl ?_
      refine z_lv (lv2 := [(0, _), (2, _), (5, _), (7, _)]) ⟨rfl, rfl, rfl, rfl, trivial⟩ ?_
      exact l_distribute3 (q := q) (F := F - 1) hT (by omega) (by omega) (by omega) ((congrFun (zU_row _ _ _ (by decide)) _).trans ((congrFun (zU_row _ _ _ (by decide)) _).trans (zDb_k hI2 hq3))) (zU_same _ _ _ _) (by omega) (fun e I4 I5 G5 h4 h5 => hK e I5 G5 (zFr_tr (zDi_end (by omega) (by omega) hI2 hF3 hd3 hy h4) h5)) _ _ _ _ (by omega) zDc_0 (by omega) (Nat.lt_succ_self _)
    ·
      refine z_aload_n (pc2 := 117) rfl rfl rfl ?_
      refine z_getP (pc2 := 120) rfl rfl rfl rfl t56 ?_
      intro p8 p8e p8k; replace p8k : p8 = some 57 := p8k; clear p8e; subst p8k
      refine z_aload_n (pc2 := 121) rfl rfl rfl ?_
      refine z_iload_n (pc2 := 122) rfl rfl rfl ?_
      refine z_callV (y2 := 256) (as := [_]) (rest := [_]) (pc2 := 125) rfl rfl rfl rfl t56 rfl ?_
      refine z_inl ?_
      refine z_lv (lv2 := [(0, _), (1, _)]) ⟨rfl, rfl, trivial⟩ ?_
      refine z_aload_n (pc2 := 1) rfl rfl rfl ?_
      refine z_callV (y2 := 162) (as := []) (rest := []) (pc2 := 4) rfl rfl rfl rfl t56 rfl ?_
      refine z_inl ?_
      refine z_lv (lv2 := [(0, _)]) ⟨rfl, trivial⟩ ?_
      refine z_ldc (56100) (pc2 := 2) rfl rfl rfl ?_
      refine z_aload_n (pc2 := 3) rfl rfl rfl ?_
      refine z_getI (pc2 := 6) 0 rfl rfl rfl rfl rfl t56 ?_
      intro v9 e9 r9 k9
      replace k9 : (0 : Int) ≤ v9 ∧ v9 ≤ 1 := k9; clear r9
      replace e9 : q = v9 := by rw [e9]; first | exact (zDb_k hI2 hq3) | exact Eq.symm (zDb_k hI2 hq3) | (simp [zU]; first | done | exact (zDb_k hI2 hq3) | exact Eq.symm (zDb_k hI2 hq3) | omega)
      subst e9
      refine z_imul (pc2 := 7) rfl rfl ?_
      refine z_iret rfl rfl ?_
      show zB _ _ _ _ _ _ [_] _ _
      refine z_sipush (pc2 := 7) rfl rfl (by decide) ?_
      refine z_iadd (pc2 := 8) rfl rfl ?_
      refine z_bipush (pc2 := 10) rfl rfl (by decide) ?_
      refine z_iload_n (pc2 := 11) rfl rfl rfl ?_
      refine z_imul (pc2 := 12) rfl rfl ?_
      refine z_iadd (pc2 := 13) rfl rfl ?_
      refine z_iret rfl rfl ?_
      show zB _ _ _ _ _ _ [_, _] _ _
      refine z_iload (pc2 := 127) rfl rfl rfl ?_
      refine z_iadd (pc2 := 128) rfl rfl ?_
      refine z_aload_n (pc2 := 129) rfl rfl rfl ?_
      refine z_getP (pc2 := 132) rfl rfl rfl rfl t56 ?_
      intro p10 p10e p10k; replace p10k : p10 = some 57 := p10k; clear p10e; subst p10k
      refine z_aload_n (pc2 := 133) rfl rfl rfl ?_
      refine z_iload_n (pc2 := 134) rfl rfl rfl ?_
      refine z_iload (pc2 := 136) rfl rfl rfl ?_
      refine z_iadd (pc2 := 137) rfl rfl ?_
      refine z_callV (y2 := 256) (as := [_]) (rest := [_, _, _]) (pc2 := 140) rfl rfl rfl rfl t56 rfl ?_
      refine z_inl ?_
      refine z_lv (lv2 := [(0, _), (1, _)]) ⟨rfl, rfl, trivial⟩ ?_
      refine z_aload_n (pc2 := 1) rfl rfl rfl ?_
      refine z_callV (y2 := 162) (as := []) (rest := []) (pc2 := 4) rfl rfl rfl rfl t56 rfl ?_
      refine z_inl ?_
      refine z_lv (lv2 := [(0, _)]) ⟨rfl, trivial⟩ ?_
      refine z_ldc (56100) (pc2 := 2) rfl rfl rfl ?_
      refine z_aload_n (pc2 := 3) rfl rfl rfl ?_
      refine z_getI (pc2 := 6) 0 rfl rfl rfl rfl rfl t56 ?_
      intro v11 e11 r11 k11
      replace k11 : (0 : Int) ≤ v11 ∧ v11 ≤ 1 := k11; clear r11
      replace e11 : q = v11 := by rw [e11]; first | exact (zDb_k hI2 hq3) | exact Eq.symm (zDb_k hI2 hq3) | (simp [zU]; first | done | exact (zDb_k hI2 hq3) | exact Eq.symm (zDb_k hI2 hq3) | omega)
      subst e11
      refine z_imul (pc2 := 7) rfl rfl ?_
      refine z_iret rfl rfl ?_
      show zB _ _ _ _ _ _ [_] _ _
      refine z_sipush (pc2 := 7) rfl rfl (by decide) ?_
      refine z_iadd (pc2 := 8) rfl rfl ?_
      refine z_bipush (pc2 := 10) rfl rfl (by decide) ?_
      refine z_iload_n (pc2 := 11) rfl rfl rfl ?_
      refine z_imul (pc2 := 12) rfl rfl ?_
      refine z_iadd (pc2 := 13) rfl rfl ?_
      refine z_iret rfl rfl ?_
      show zB _ _ _ _ _ _ [_, _, _, _] _ _
      refine z_iload (pc2 := 142) rfl rfl rfl ?_
      refine z_iadd (pc2 := 143) rfl rfl ?_
      refine z_iald (pc2 := 144) rfl rfl t57 (by omega) (by omega) (by decide) ?_
      intro v12 e12 r12 k12
      refine z_iast (pc2 := 145) rfl rfl t57 (by omega) (by omega) (by decide) (by omega) (st_mv k12 (by omega) (by omega) (by omega)) ?_
      refine z_iinc (lv2 := [(7, _), (0, _), (2, _), (3, _), (4, _), (5, _), (6, _)]) (pc2 := 148) rfl rfl rfl rfl rfl ?_
      refine z_goto (pc2 := 106) rfl rfl ?_
      refine z_lv (lv2 := [(0, _), (2, _), (3, _), (4, _), (5, _), (6, _), (7, _)]) ⟨rfl, rfl, rfl, rfl, rfl, rfl, rfl, trivial⟩ ?_
      exact ih _ _ _ (by omega) (zDb_n hI2 (by omega)) (by omega) (by omega)
set_option maxHeartbeats 8000000 in
theorem l_distribute1 {L : Nat} {xs : Nat → Int32} {n sl : Nat} {T : Nat → zT} {I : Nat → Nat → Int} {P : Nat → Nat → Option Nat} {K : List zV → zH → Prop} {c f y q F d : Int} (hT : ∀ a, 56 ≤ a → a ≤ 90 → T a = zFix a) (hc : 0 ≤ c ∧ c ≤ 11) (hf : 0 ≤ f ∧ f ≤ 660) (hy : 0 ≤ y ∧ y ≤ 60) (hq : 0 ≤ q ∧ q ≤ 1) (hF : 1 ≤ F ∧ F ≤ 12) (hd : 0 ≤ d ∧ d ≤ 720) (hq3 : I 56 3 = q) (hF3 : I 57 (56100 * q + 166).toNat = F) (hd3 : I 57 (56100 * q + 167).toNat = d) (hy : y = I 57 (56100 * q + 1901 + 2 * c).toNat) (hcF : c < F) (hfd : f + y ≤ d) (hK : ∀ e I2 G2, zFr I I2 → K [.inl e] (n, sl, T, I2, P, G2)) (m : Nat) : ∀ (I2 : Nat → Nat → Int) (G2 : Nat → Nat → Int), ∀ (s l : Int), 0 ≤ l ∧ l ≤ 60 → zFb I I2 → (60 - l).toNat < m → zB zMd L xs 262 53 [(0, .inr (.inl (some 56))), (2, .inl c), (3, .inl f), (4, .inl y), (5, .inl s), (6, .inl l)] [] (n, sl, T, I2, P, G2) K := by
  have t56 : T 56 = (1, 12, [1]) := hT 56 (by decide) (by decide)
  have t57 : T 57 = (2, 0, [112200, 1]) := hT 57 (by decide) (by decide)
  induction m with
  | zero => intro I2 G2 s l hl hI2 hm; omega
  | succ m ih =>
    intro I2 G2 s l hl hI2 hm
    refine z_iload (pc2 := 55) rfl rfl rfl ?_
    refine z_iload (pc2 := 57) rfl rfl rfl ?_
    refine z_icmp_ge (t := 83) (pc2 := 60) rfl rfl rfl (by omega) (by omega) (fun c1 => ?_) (fun c1 => ?_)
    ·
      refine z_aload_n (pc2 := 84) rfl rfl rfl ?_
      refine z_getP (pc2 := 87) rfl rfl rfl rfl t56 ?_
      intro p2 p2e p2k; replace p2k : p2 = some 57 := p2k; clear p2e; subst p2k
      refine z_aload_n (pc2 := 88) rfl rfl rfl ?_
      refine z_callV (y2 := 162) (as := []) (rest := [_]) (pc2 := 91) rfl rfl rfl rfl t56 rfl ?_
      refine z_inl ?_
      refine z_lv (lv2 := [(0, _)]) ⟨rfl, trivial⟩ ?_
      refine z_ldc (56100) (pc2 := 2) rfl rfl rfl ?_
      refine z_aload_n (pc2 := 3) rfl rfl rfl ?_
      refine z_getI (pc2 := 6) 0 rfl rfl rfl rfl rfl t56 ?_
      intro v3 e3 r3 k3
      replace k3 : (0 : Int) ≤ v3 ∧ v3 ≤ 1 := k3; clear r3
      replace e3 : q = v3 := by rw [e3]; first | exact (zDb_k (q := q) (zDb_b hI2) hq3) | exact Eq.symm (zDb_k (q := q) (zDb_b hI2) hq3) | (simp [zU]; first | done | exact (zDb_k (q := q) (zDb_b hI2) hq3) | exact Eq.symm (zDb_k (q := q) (zDb_b hI2) hq3) | omega)
      subst e3
      refine z_imul (pc2 := 7) rfl rfl ?_
      refine z_iret rfl rfl ?_
      show zB _ _ _ _ _ _ [_, _] _ _
      refine z_sipush (pc2 := 94) rfl rfl (by decide) ?_
      refine z_iadd (pc2 := 95) rfl rfl ?_
      refine z_iald (pc2 := 96) rfl rfl t57 (by omega) (by omega) (by decide) ?_
      intro v4 e4 r4 k4
      replace k4 := ok_sets k4 (by omega); clear r4
      replace e4 : d = v4 := by rw [e4]; first | exact (zDb_57 (q := q) (zDb_b hI2) (by omega) hd3) | exact Eq.symm (zDb_57 (q := q) (zDb_b hI2) (by omega) hd3) | (simp [zU]; first | done | exact (zDb_57 (q := q) (zDb_b hI2) (by omega) hd3) | exact Eq.symm (zDb_57 (q := q) (zDb_b hI2) (by omega) hd3) | omega)
      subst e4
      refine z_iload_n (pc2 := 97) rfl rfl rfl ?_
      refine z_isub (pc2 := 98) rfl rfl ?_
      refine z_iload (pc2 := 100) rfl rfl rfl ?_
      refine z_isub (pc2 := 101) rfl rfl ?_
      refine z_istore (lv2 := [(6, _), (0, _), (2, _), (3, _), (4, _), (5, _)]) (pc2 := 103) rfl rfl rfl rfl ?_
      refine z_iconst (pc2 := 104) rfl rfl ?_
      refine z_istore (lv2 := [(7, _), (6, _), (0, _), (2, _), (3, _), (4, _), (5, _)]) (pc2 := 106) rfl rfl rfl rfl ?_
      refine z_lv (lv2 := [(0, _), (2, _), (3, _), (4, _), (5, _), (6, _), (7, _)]) ⟨rfl, rfl, rfl, rfl, rfl, rfl, rfl, trivial⟩ ?_
      exact l_distribute2 (q := q) (F := F) (d := d) hT (by omega) (by omega) (by omega) (by omega) (by omega) (by omega) (by omega) hq3 hF3 hd3 hy hcF hfd (by omega) hK _ _ _ _ (by omega) (zDb_b hI2) (by omega) (Nat.lt_succ_self _)
    ·
      refine z_iload (pc2 := 62) rfl rfl rfl ?_
      refine z_aload_n (pc2 := 63) rfl rfl rfl ?_
      refine z_aload_n (pc2 := 64) rfl rfl rfl ?_
      refine z_iload_n (pc2 := 65) rfl rfl rfl ?_
      refine z_iload (pc2 := 67) rfl rfl rfl ?_
      refine z_iadd (pc2 := 68) rfl rfl ?_
      refine z_callV (y2 := 256) (as := [_]) (rest := [_, _]) (pc2 := 71) rfl rfl rfl rfl t56 rfl ?_
      refine z_inl ?_
      refine z_lv (lv2 := [(0, _), (1, _)]) ⟨rfl, rfl, trivial⟩ ?_
      refine z_aload_n (pc2 := 1) rfl rfl rfl ?_
      refine z_callV (y2 := 162) (as := []) (rest := []) (pc2 := 4) rfl rfl rfl rfl t56 rfl ?_
      refine z_inl ?_
      refine z_lv (lv2 := [(0, _)]) ⟨rfl, trivial⟩ ?_
      refine z_ldc (56100) (pc2 := 2) rfl rfl rfl ?_
      refine z_aload_n (pc2 := 3) rfl rfl rfl ?_
      refine z_getI (pc2 := 6) 0 rfl rfl rfl rfl rfl t56 ?_
      intro v5 e5 r5 k5
      replace k5 : (0 : Int) ≤ v5 ∧ v5 ≤ 1 := k5; clear r5
      replace e5 : q = v5 := by rw [e5]; first | exact (zDb_k (q := q) (zDb_b hI2) hq3) | exact Eq.symm (zDb_k (q := q) (zDb_b hI2) hq3) | (simp [zU]; first | done | exact (zDb_k (q := q) (zDb_b hI2) hq3) | exact Eq.symm (zDb_k (q := q) (zDb_b hI2) hq3) | omega)
      subst e5
      refine z_imul (pc2 := 7) rfl rfl ?_
      refine z_iret rfl rfl ?_
      show zB _ _ _ _ _ _ [_] _ _
      refine z_sipush (pc2 := 7) rfl rfl (by decide) ?_
      refine z_iadd (pc2 := 8) rfl rfl ?_
      refine z_bipush (pc2 := 10) rfl rfl (by decide) ?_
      refine z_iload_n (pc2 := 11) rfl rfl rfl ?_
      refine z_imul (pc2 := 12) rfl rfl ?_
      refine z_iadd (pc2 := 13) rfl rfl ?_
      refine z_iret rfl rfl ?_
      show zB _ _ _ _ _ _ [_, _, _] _ _
      refine z_callV (y2 := 242) (as := [_]) (rest := [_]) (pc2 := 74) rfl rfl rfl rfl t56 rfl ?_
      refine m_clears (q := q) (l := f + l + 100) hT (by omega) (by omega) (by omega) (by omega) (fun w6 Iw6 Gw6 bw6 => ?_)
      replace bw6 := zFb_tr hI2 bw6
      show zB _ _ _ _ _ _ [_, _] _ _
      refine z_iadd (pc2 := 75) rfl rfl ?_
      refine z_istore (lv2 := [(5, _), (0, _), (2, _), (3, _), (4, _), (6, _)]) (pc2 := 77) rfl rfl rfl rfl ?_
      refine z_iinc (lv2 := [(6, _), (5, _), (0, _), (2, _), (3, _), (4, _)]) (pc2 := 80) rfl rfl rfl rfl rfl ?_
      refine z_goto (pc2 := 53) rfl rfl ?_
      refine z_lv (lv2 := [(0, _), (2, _), (3, _), (4, _), (5, _), (6, _)]) ⟨rfl, rfl, rfl, rfl, rfl, rfl, trivial⟩ ?_
      exact ih _ _ _ _ (by omega) (by assumption) (by omega)
set_option maxHeartbeats 8000000 in
theorem m_distribute {L : Nat} {xs : Nat → Int32} {n sl : Nat} {T : Nat → zT} {I : Nat → Nat → Int} {P : Nat → Nat → Option Nat} {G : Nat → Nat → Int} {K : List zV → zH → Prop} {x : Int} (hT : ∀ a, 56 ≤ a → a ≤ 90 → T a = zFix a) (hx : zR x) (hrl : zRl I) (hK : ∀ e I2 G2, zFr I I2 → K [.inl e] (n, sl, T, I2, P, G2)) : zX zMd L xs 262 [.inr (.inl (some 56)), .inl x] (n, sl, T, I, P, G) K := by
  have t56 : T 56 = (1, 12, [1]) := hT 56 (by decide) (by decide)
  have t57 : T 57 = (2, 0, [112200, 1]) := hT 57 (by decide) (by decide)
  refine z_inl ?_
  refine z_lv (lv2 := [(0, _), (1, _)]) ⟨rfl, rfl, trivial⟩ ?_
  refine z_aload_n (pc2 := 1) rfl rfl rfl ?_
  refine z_iload_n (pc2 := 2) rfl rfl rfl ?_
  refine z_callV (y2 := 259) (as := [_]) (rest := []) (pc2 := 5) rfl rfl rfl rfl t56 rfl ?_
  refine m_formeOf hT (by omega) (fun w1 w1r w1g => ?_)
  show zB _ _ _ _ _ _ [_] _ _
  refine z_istore_n (lv2 := [(2, _), (0, _), (1, _)]) (pc2 := 6) rfl rfl rfl rfl ?_
  refine z_iload_n (pc2 := 7) rfl rfl rfl ?_
  refine z_if_ge (t := 16) (pc2 := 10) rfl rfl rfl (by omega) (fun c2 => ?_) (fun c2 => ?_)
  ·
    refine z_aload_n (pc2 := 17) rfl rfl rfl ?_
    refine z_callV (y2 := 167) (as := []) (rest := []) (pc2 := 20) rfl rfl rfl rfl t56 rfl ?_
    refine m_keep hT (fun Iw3 Gw3 fw3 ow3 => ?_)
    replace fw3 := zFr_tr (I := I) (by repeat (first | exact zFr_rf _ | assumption | refine zFr_a ?_ (by decide) | refine zFr_f ?_ (by decide) | refine zFr_n ?_ (by omega) | refine zFr_h ?_ (by omega) | refine zFr_tok ?_ (by omega))) fw3
    show zB _ _ _ _ _ _ [] _ _
    refine z_aload_n (pc2 := 21) rfl rfl rfl ?_
    refine z_iload_n (pc2 := 22) rfl rfl rfl ?_
    refine z_callV (y2 := 260) (as := [_]) (rest := []) (pc2 := 25) rfl rfl rfl rfl t56 rfl ?_
    refine m_linesAhead hT (by omega) (fun w4 w4z w4r => ?_)
    have w4b : 0 ≤ w4 ∧ w4 ≤ 660 := by omega
    show zB _ _ _ _ _ _ [_] _ _
    refine z_istore_n (lv2 := [(3, _), (2, _), (0, _), (1, _)]) (pc2 := 26) rfl rfl rfl rfl ?_
    refine z_aload_n (pc2 := 27) rfl rfl rfl ?_
    refine z_getP (pc2 := 30) rfl rfl rfl rfl t56 ?_
    intro p5 p5e p5k; replace p5k : p5 = some 57 := p5k; clear p5e; subst p5k
    refine z_aload_n (pc2 := 31) rfl rfl rfl ?_
    refine z_callV (y2 := 162) (as := []) (rest := [_]) (pc2 := 34) rfl rfl rfl rfl t56 rfl ?_
    refine z_inl ?_
    refine z_lv (lv2 := [(0, _)]) ⟨rfl, trivial⟩ ?_
    refine z_ldc (56100) (pc2 := 2) rfl rfl rfl ?_
    refine z_aload_n (pc2 := 3) rfl rfl rfl ?_
    refine z_getI (pc2 := 6) 0 rfl rfl rfl rfl rfl t56 ?_
    intro v6 e6 r6 k6
    replace k6 : (0 : Int) ≤ v6 ∧ v6 ≤ 1 := k6; clear r6
    refine z_imul (pc2 := 7) rfl rfl ?_
    refine z_iret rfl rfl ?_
    show zB _ _ _ _ _ _ [_, _] _ _
    refine z_sipush (pc2 := 37) rfl rfl (by decide) ?_
    refine z_iadd (pc2 := 38) rfl rfl ?_
    refine z_iconst (pc2 := 39) rfl rfl ?_
    refine z_iload_n (pc2 := 40) rfl rfl rfl ?_
    refine z_imul (pc2 := 41) rfl rfl ?_
    refine z_iadd (pc2 := 42) rfl rfl ?_
    refine z_iconst (pc2 := 43) rfl rfl ?_
    refine z_iadd (pc2 := 44) rfl rfl ?_
    refine z_iald (pc2 := 45) rfl rfl t57 (by omega) (by omega) (by decide) ?_
    intro v7 e7 r7 k7
    replace k7 := ok_fl k7 (by omega); clear r7
    refine z_istore (lv2 := [(4, _), (3, _), (2, _), (0, _), (1, _)]) (pc2 := 47) rfl rfl rfl rfl ?_
    refine z_iconst (pc2 := 48) rfl rfl ?_
    refine z_istore (lv2 := [(5, _), (4, _), (3, _), (2, _), (0, _), (1, _)]) (pc2 := 50) rfl rfl rfl rfl ?_
    refine z_iconst (pc2 := 51) rfl rfl ?_
    refine z_istore (lv2 := [(6, _), (5, _), (4, _), (3, _), (2, _), (0, _), (1, _)]) (pc2 := 53) rfl rfl rfl rfl ?_
    refine zB_wf (fun hw => ?_)
    have hJ3 : Iw3 56 3 = v6 := Eq.symm (by assumption)
    have hF4 : w1 < Iw3 57 (56100 * v6 + 166).toNat := by have h5 := w1g (by omega); rw [← ow3 57 _ (by omega) (by omega), ← ow3 56 3 (by omega) (by omega), hJ3] at h5; exact h5
    have hy4 : v7 = Iw3 57 (56100 * v6 + 1901 + 2 * w1).toNat := by rw [show (56100 * v6 + 1901 + 2 * w1).toNat = (56100 * v6 + 1900 + 2 * w1 + 1).toNat by omega]; assumption
    have hf4 : w4 = zSum (Iw3 57) (56100 * v6 + 1901).toNat 2 (w1).toNat := by rw [← hJ3]; assumption
    obtain ⟨hF5, hfd, hd5⟩ := zDi_le hT hw (fw3.2 hrl) (q := v6) (by omega) rfl rfl ⟨by omega, hF4⟩ hf4 hy4
    refine z_lv (lv2 := [(0, _), (2, _), (3, _), (4, _), (5, _), (6, _)]) ⟨rfl, rfl, rfl, rfl, rfl, rfl, trivial⟩ ?_
    exact l_distribute1 (q := v6) (F := Iw3 57 (56100 * v6 + 166).toNat) (d := Iw3 57 (56100 * v6 + 167).toNat) hT (by omega) (by omega) (by omega) (by omega) (by omega) (by omega) hJ3 rfl rfl hy4 hF4 hfd (fun e I9 G9 h9 => hK e I9 G9 (zFr_tr fw3 h9)) _ _ _ _ _ (by omega) (zFb_rf _) (Nat.lt_succ_self _)
  ·
    refine z_aload_n (pc2 := 11) rfl rfl rfl ?_
    refine z_iconst (pc2 := 12) rfl rfl ?_
    refine z_callV (y2 := 159) (as := [_]) (rest := []) (pc2 := 15) rfl rfl rfl rfl t56 rfl ?_
    refine z_inl ?_
    refine z_lv (lv2 := [(0, _), (1, _)]) ⟨rfl, rfl, trivial⟩ ?_
    refine z_aload_n (pc2 := 1) rfl rfl rfl ?_
    refine z_iload_n (pc2 := 2) rfl rfl rfl ?_
    refine z_putI (pc2 := 5) rfl rfl rfl rfl rfl rfl t56 (by omega) True.intro ?_
    refine z_iload_n (pc2 := 6) rfl rfl rfl ?_
    refine z_iret rfl rfl ?_
    show zB _ _ _ _ _ _ [_] _ _
    refine z_iret rfl rfl ?_
    exact hK _ _ _ (by repeat (first | exact zFr_rf _ | assumption | refine zFr_a ?_ (by decide) | refine zFr_f ?_ (by decide) | refine zFr_n ?_ (by omega) | refine zFr_h ?_ (by omega) | refine zFr_tok ?_ (by omega)))
