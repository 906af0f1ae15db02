/-! the class: a line is made -/
set_option maxHeartbeats 8000000 in
theorem cl_Composer_makeLine {L : Nat} {xs : Nat → Int32} {n sl : Nat} {T : Nat → zT} {I : Nat → Nat → Int} {P : Nat → Nat → Option Nat} {G : Nat → Nat → Int} {K : List zV → zH → Prop} {p t a e y z w c un : Int} {fo : Nat} (hn : 90 ≤ n) (hC : ∀ a, 1 ≤ a → a ≤ 55 → T a = zFixC a) (ha : 0 ≤ a ∧ a ≤ 40) (he : 0 ≤ e ∧ e ≤ 40) (hy : 0 ≤ y ∧ y ≤ 1) (hz : 0 ≤ z ∧ z ≤ 1) (hw : 0 ≤ w ∧ w ≤ 40) (hc : 0 ≤ c ∧ c ≤ 40) (hun : 0 ≤ un ∧ un ≤ 24) (hrd : P 9 6 = some 5) (hcf : P 9 7 = some fo) (tfo : T fo = (1, 3, [un])) (fol : fo ≤ n) (fo9 : 91 ≤ fo) (hrf : P 5 4 = some fo) (hc5 : I 5 3 = c) (htk : zTkn un c I) (hawc : a ≤ w ∧ w ≤ c) (hwe : w ≤ e) (hz1 : z = 1 → 1 ≤ un) (hK : ∀ n2 s2 T2 I2 P2 G2, zTn n T T2 → zTm T T2 → zQs (zIl n) I I2 → zPs2 (zIn n) P P2 → T2 (n + 1) = (1, 4, [1]) → (n + 1 ≤ n2 ∧ n2 ≤ n + 4 + 3 * (e - a).toNat ∧ s2 ≤ sl + 100 + 20 * (e - a).toNat) → K [.inr (.inl (some (n + 1)))] (n2, s2, T2, I2, P2, G2)) (m : Nat) : ∀ (I2 : Nat → Nat → Int), ∀ (k : Int), 0 ≤ k ∧ k ≤ 40 → zCm I I2 → a ≤ k ∧ k ≤ w → zMs un (k - a) I2 → I2 9 12 = zCt zOne (I 6) a.toNat (k - a).toNat → (40 - k).toNat < m → zB zMd L xs 15 76 [(0, .inr (.inl (some 9))), (1, .inl p), (2, .inl t), (3, .inl a), (4, .inl e), (5, .inl y), (6, .inl z), (7, .inl w), (8, .inl k)] [] (n, sl, T, I2, P, G) K := by
  have t9 : T 9 = (1, 0, [1]) := hC 9 (by decide) (by decide)
  have t17 : T 17 = (2, 0, [12, 9]) := hC 17 (by decide) (by decide)
  have t22 : T 22 = (2, 0, [12, 12]) := hC 22 (by decide) (by decide)
  induction m with
  | zero => intro I2 k hk hI2 hb3 hms hs6 hm; omega
  | succ m ih =>
    intro I2 k hk hI2 hb3 hms hs6 hm
    refine z_iload (pc2 := 78) rfl rfl rfl ?_
    refine z_iload (pc2 := 80) rfl rfl rfl ?_
    refine z_icmp_ge (t := 95) (pc2 := 83) rfl rfl rfl (by omega) (by omega) (fun c1 => ?_) (fun c1 => ?_)
    ·
      have hm9 := hms
      unfold zMs at hm9
      have js : I2 9 12 = zCt zOne (I 6) a.toNat (w - a).toNat := by rw [hs6, show k = w by omega]
      have jb := zCt_b (f := zOne) (r := I 6) (a := a.toNat) zOne_b (w - a).toNat
      refine z_iload (pc2 := 97) rfl rfl rfl ?_
      refine z_if_eq (t := 115) (pc2 := 100) rfl rfl rfl (by omega) (fun c2 => ?_) (fun c2 => ?_)
      ·
        refine z_aload_n (pc2 := 116) rfl rfl rfl ?_
        refine z_getI (pc2 := 119) 0 rfl rfl rfl rfl rfl t9 ?_
        intro v3 e3 r3 k3
        clear k3
        clear e3
        refine z_aload_n (pc2 := 120) rfl rfl rfl ?_
        refine z_getI (pc2 := 123) 0 rfl rfl rfl rfl rfl t9 ?_
        intro v4 e4 r4 k4
        clear k4
        clear e4
        refine z_isub (pc2 := 124) rfl rfl ?_
        refine z_istore (lv2 := [(8, _), (0, _), (1, _), (2, _), (3, _), (4, _), (5, _), (6, _), (7, _)]) (pc2 := 126) rfl rfl rfl rfl ?_
        refine z_aload_n (pc2 := 127) rfl rfl rfl ?_
        refine z_iload (pc2 := 129) rfl rfl rfl ?_
        refine z_iload (pc2 := 131) rfl rfl rfl ?_
        refine z_callV (y2 := 16) (as := [_, _]) (rest := []) (pc2 := 134) rfl rfl rfl rfl t9 rfl ?_
        refine c_Composer_justify hn hC (by omega) (by omega) hrd hcf tfo fol fo9 (fun w5 I5 j5 => ?_)
        show zB _ _ _ _ _ _ [_] _ _
        refine z_istore (lv2 := [(9, _), (8, _), (0, _), (1, _), (2, _), (3, _), (4, _), (5, _), (6, _), (7, _)]) (pc2 := 136) rfl rfl rfl rfl ?_
        refine z_aload_n (pc2 := 137) rfl rfl rfl ?_
        refine z_getI (pc2 := 140) 0 rfl rfl rfl rfl rfl t9 ?_
        intro v6 e6 r6 k6
        replace k6 : (0 : Int) ≤ v6 ∧ v6 ≤ 100 := k6
        clear e6
        refine z_aload_n (pc2 := 141) rfl rfl rfl ?_
        refine z_getI (pc2 := 144) 0 rfl rfl rfl rfl rfl t9 ?_
        intro v7 e7 r7 k7
        clear k7
        clear e7
        refine z_imul (pc2 := 145) rfl rfl ?_
        refine z_aload_n (pc2 := 146) rfl rfl rfl ?_
        refine z_getI (pc2 := 149) 0 rfl rfl rfl rfl rfl t9 ?_
        intro v9 e9 r9 k9
        replace k9 : (0 : Int) ≤ v9 ∧ v9 ≤ 100 := k9
        clear e9
        refine z_aload_n (pc2 := 150) rfl rfl rfl ?_
        refine z_getI (pc2 := 153) 0 rfl rfl rfl rfl rfl t9 ?_
        intro v10 e10 r10 k10
        clear k10
        clear e10
        refine z_imul (pc2 := 154) rfl rfl ?_
        refine z_iadd (pc2 := 155) rfl rfl ?_
        refine z_aload_n (pc2 := 156) rfl rfl rfl ?_
        refine z_getI (pc2 := 159) 0 rfl rfl rfl rfl rfl t9 ?_
        intro v12 e12 r12 k12
        clear k12
        clear e12
        refine z_iadd (pc2 := 160) rfl rfl ?_
        refine z_istore (lv2 := [(10, _), (9, _), (8, _), (0, _), (1, _), (2, _), (3, _), (4, _), (5, _), (6, _), (7, _)]) (pc2 := 162) rfl rfl rfl rfl ?_
        refine z_new (c := 4) (s := 12) (pc2 := 165) rfl rfl rfl rfl (fun _ => True.intro) (fun T13 I13 P13 G13 w13 => ?_)
        refine z_dup (pc2 := 166) rfl rfl rfl ?_
        refine z_iload_n (pc2 := 167) rfl rfl rfl ?_
        refine z_aload_n (pc2 := 168) rfl rfl rfl ?_
        refine z_getP (pc2 := 171) rfl rfl rfl rfl ((w13.1 _ (by omega)).1.trans t9) ?_
        intro p14 p14e p14k
        clear p14k; replace p14e : p14 = some fo := by rw [p14e]; first | exact (by rw [(w13.1 9 (by omega)).2.2.1]; first | exact hcf | exact Eq.symm hcf) | exact Eq.symm (by rw [(w13.1 9 (by omega)).2.2.1]; first | exact hcf | exact Eq.symm hcf) | (simp [zU]; first | done | exact (by rw [(w13.1 9 (by omega)).2.2.1]; first | exact hcf | exact Eq.symm hcf) | exact Eq.symm (by rw [(w13.1 9 (by omega)).2.2.1]; first | exact hcf | exact Eq.symm hcf) | omega) | (refine Eq.trans (congrArg _ ?_) (Eq.symm (by rw [(w13.1 9 (by omega)).2.2.1]; first | exact hcf | exact Eq.symm hcf)); omega)
        subst p14e
        refine z_aload_n (pc2 := 172) rfl rfl rfl ?_
        refine z_getI (pc2 := 175) 0 rfl rfl rfl rfl rfl ((w13.1 _ (by omega)).1.trans t9) ?_
        intro v15 e15 r15 k15
        clear k15
        clear e15
        refine z_aload_n (pc2 := 176) rfl rfl rfl ?_
        refine z_getI (pc2 := 179) 0 rfl rfl rfl rfl rfl ((w13.1 _ (by omega)).1.trans t9) ?_
        intro v16 e16 r16 k16
        replace k16 : (0 : Int) ≤ v16 ∧ v16 ≤ 40 := k16
        clear e16
        refine z_iload_n (pc2 := 180) rfl rfl rfl ?_
        refine z_aload_n (pc2 := 181) rfl rfl rfl ?_
        refine z_iload_n (pc2 := 182) rfl rfl rfl ?_
        refine z_iload (pc2 := 184) rfl rfl rfl ?_
        refine z_iload (pc2 := 186) rfl rfl rfl ?_
        refine z_callV (y2 := 18) (as := [_, _, _]) (rest := [_, _, _, _, _, _, _]) (pc2 := 189) rfl rfl rfl rfl ((w13.1 _ (by omega)).1.trans t9) rfl ?_
        have cu17 : ∀ b k, b ≤ 8 → I13 b k = I b k := fun b k hb => by rw [(w13.1 b (by omega)).2.1, j5 b k (by omega)]; first | exact hI2 b k (by omega) | (rw [zU_row _ _ _ (by omega), zU_row _ _ _ (by omega), zU_row _ _ _ (by omega)]; exact hI2 b k (by omega))
        have s1217 : I13 9 12 = I2 9 12 + z := by rw [(w13.1 9 (by omega)).2.1, j5 9 12 (by omega)]; first | omega | (simp [zU]; omega)
        refine c_Composer_makeSorts (c := c) (un := un) (s := I2 9 12 + z) (by omega) (fun a h1 h2 => (((zTn_n zTn_rf w13 (by omega)) : zTn n _ _) a (by omega)).trans (hC a h1 h2)) (by omega) (by omega) (by omega) (by omega) (by omega) (by omega) (by first | exact (by rw [(w13.1 9 (by omega)).2.2.1]; first | exact hrd | exact Eq.symm hrd) | exact Eq.symm (by rw [(w13.1 9 (by omega)).2.2.1]; first | exact hrd | exact Eq.symm hrd)) (by first | exact (by rw [(w13.1 9 (by omega)).2.2.1]; first | exact hcf | exact Eq.symm hcf) | exact Eq.symm (by rw [(w13.1 9 (by omega)).2.2.1]; first | exact hcf | exact Eq.symm hcf)) ((w13.1 _ (by omega)).1.trans tfo) (by omega) fo9 (by rw [(w13.1 5 (by omega)).2.2.1]; exact hrf) s1217 (fun i hi => zTw_q (htk i hi) (cu17 6 _ (by omega)) (cu17 7 _ (by omega)) (cu17 8 _ (by omega))) hawc (by rw [zCt_eq (r := I 6) (fun j => cu17 6 j (by omega)), js]) hz1 (fun n17 s17 T17 I17 P17 G17 a17 b17 c17 d17 t17 h17 => ?_)
        show zB _ _ _ _ _ _ [_, _, _, _, _, _, _, _] _ _
        refine z_aload_n (pc2 := 190) rfl rfl rfl ?_
        refine z_iload_n (pc2 := 191) rfl rfl rfl ?_
        refine z_iload (pc2 := 193) rfl rfl rfl ?_
        refine z_callV (y2 := 20) (as := [_, _]) (rest := [_, _, _, _, _, _, _, _]) (pc2 := 196) rfl rfl rfl rfl ((a17 _ (by omega)).trans ((w13.1 _ (by omega)).1.trans t9)) rfl ?_
        refine c_Composer_makeCalls (c := c) (un := un) (by omega) (fun a h1 h2 => (((zTn_t (m := (n + 1)) (zTn_n zTn_rf w13 (by omega)) a17 (by omega)) : zTn n _ _) a (by omega)).trans (hC a h1 h2)) (by omega) (by omega) (by omega) (by omega) (by first | exact (by rw [d17 9 6 (by unfold zIn; omega)]; first | exact (by rw [(w13.1 9 (by omega)).2.2.1]; first | exact hrd | exact Eq.symm hrd) | exact Eq.symm (by rw [(w13.1 9 (by omega)).2.2.1]; first | exact hrd | exact Eq.symm hrd)) | exact Eq.symm (by rw [d17 9 6 (by unfold zIn; omega)]; first | exact (by rw [(w13.1 9 (by omega)).2.2.1]; first | exact hrd | exact Eq.symm hrd) | exact Eq.symm (by rw [(w13.1 9 (by omega)).2.2.1]; first | exact hrd | exact Eq.symm hrd))) (fun i hi => zTw_q (htk i hi) ((c17 6 _ (by unfold zIm; omega)).trans (cu17 6 _ (by omega))) ((c17 7 _ (by unfold zIm; omega)).trans (cu17 7 _ (by omega))) ((c17 8 _ (by unfold zIm; omega)).trans (cu17 8 _ (by omega)))) hawc (fun u18 T18 I18 P18 G18 f18 t18 m18 b18 => ?_)
        show zB _ _ _ _ _ _ [_, _, _, _, _, _, _, _, _] _ _
        refine z_callP (y2 := 45) (as := [_, _, _, _, _, _, _]) (rest := [_]) (pc2 := 199) rfl rfl rfl rfl ?_
        refine z_inl ?_
        refine z_lv (lv2 := [(0, _), (1, _), (2, _), (3, _), (4, _), (5, _), (6, _), (7, _)]) ⟨rfl, rfl, rfl, rfl, rfl, rfl, rfl, rfl, trivial⟩ ?_
        refine z_aload_n (pc2 := 1) rfl rfl rfl ?_
        refine z_obj (pc2 := 4) rfl rfl rfl rfl ?_
        refine z_aload_n (pc2 := 5) rfl rfl rfl ?_
        refine z_iconst (pc2 := 6) rfl rfl ?_
        refine z_putI (pc2 := 9) rfl rfl rfl rfl rfl rfl ((f18 _ (by omega)).1.trans ((a17 _ (by omega)).trans w13.2.1)) (by omega) True.intro ?_
        refine z_aload_n (pc2 := 10) rfl rfl rfl ?_
        refine z_iconst (pc2 := 11) rfl rfl ?_
        refine z_putI (pc2 := 14) rfl rfl rfl rfl rfl rfl ((f18 _ (by omega)).1.trans ((a17 _ (by omega)).trans w13.2.1)) (by omega) True.intro ?_
        refine z_aload_n (pc2 := 15) rfl rfl rfl ?_
        refine z_iconst (pc2 := 16) rfl rfl ?_
        refine z_putI (pc2 := 19) rfl rfl rfl rfl rfl rfl ((f18 _ (by omega)).1.trans ((a17 _ (by omega)).trans w13.2.1)) (by omega) True.intro ?_
        refine z_aload_n (pc2 := 20) rfl rfl rfl ?_
        refine z_iconst (pc2 := 21) rfl rfl ?_
        refine z_putZ (pc2 := 24) rfl rfl rfl rfl rfl rfl ((f18 _ (by omega)).1.trans ((a17 _ (by omega)).trans w13.2.1)) (by omega) True.intro ?_
        refine z_aload_n (pc2 := 25) rfl rfl rfl ?_
        refine z_iload_n (pc2 := 26) rfl rfl rfl ?_
        refine z_putI_any (pc2 := 29) rfl rfl rfl rfl rfl rfl ((f18 _ (by omega)).1.trans ((a17 _ (by omega)).trans w13.2.1)) (fun _ _ => True.intro) (fun u19 u19r => ?_)
        refine z_aload_n (pc2 := 30) rfl rfl rfl ?_
        refine z_aload_n (pc2 := 31) rfl rfl rfl ?_
        refine z_putP (pc2 := 34) rfl rfl rfl rfl (by first | exact z_fitO _ _ | exact z_fitA _ _) rfl ((f18 _ (by omega)).1.trans ((a17 _ (by omega)).trans w13.2.1)) True.intro ?_
        refine z_aload_n (pc2 := 35) rfl rfl rfl ?_
        refine z_iload_n (pc2 := 36) rfl rfl rfl ?_
        refine z_putI (pc2 := 39) rfl rfl rfl rfl rfl rfl ((f18 _ (by omega)).1.trans ((a17 _ (by omega)).trans w13.2.1)) (by omega) True.intro ?_
        refine z_aload_n (pc2 := 40) rfl rfl rfl ?_
        refine z_iload (pc2 := 42) rfl rfl rfl ?_
        refine z_putI (pc2 := 45) rfl rfl rfl rfl rfl rfl ((f18 _ (by omega)).1.trans ((a17 _ (by omega)).trans w13.2.1)) (by omega) True.intro ?_
        refine z_aload_n (pc2 := 46) rfl rfl rfl ?_
        refine z_iload (pc2 := 48) rfl rfl rfl ?_
        refine z_putI_any (pc2 := 51) rfl rfl rfl rfl rfl rfl ((f18 _ (by omega)).1.trans ((a17 _ (by omega)).trans w13.2.1)) (fun _ _ => True.intro) (fun u20 u20r => ?_)
        refine z_aload_n (pc2 := 52) rfl rfl rfl ?_
        refine z_aload (pc2 := 54) rfl rfl rfl ?_
        refine z_putP (pc2 := 57) rfl rfl rfl rfl (by first | exact z_fitO _ _ | exact z_fitA _ _) rfl ((f18 _ (by omega)).1.trans ((a17 _ (by omega)).trans w13.2.1)) True.intro ?_
        refine z_aload_n (pc2 := 58) rfl rfl rfl ?_
        refine z_aload (pc2 := 60) rfl rfl rfl ?_
        refine z_putP (pc2 := 63) rfl rfl rfl rfl (by first | exact z_fitO _ _ | exact z_fitA _ _) rfl ((f18 _ (by omega)).1.trans ((a17 _ (by omega)).trans w13.2.1)) True.intro ?_
        refine z_aload_n (pc2 := 64) rfl rfl rfl ?_
        refine z_aload_n (pc2 := 65) rfl rfl rfl ?_
        refine z_getI (pc2 := 68) 0 rfl rfl rfl rfl rfl ((f18 _ (by omega)).1.trans ((a17 _ (by omega)).trans ((w13.1 _ (by omega)).1.trans tfo))) ?_
        intro v21 e21 r21 k21
        clear k21
        clear e21
        refine z_putI (pc2 := 71) rfl rfl rfl rfl rfl rfl ((f18 _ (by omega)).1.trans ((a17 _ (by omega)).trans w13.2.1)) (by omega) True.intro ?_
        refine z_ret rfl rfl ?_
        show zB _ _ _ _ _ _ [_] _ _
        refine zB_rtO (g := 1) (gs := []) ((f18 _ (by omega)).1.trans ((a17 _ (by omega)).trans w13.2.1)) zLine_I (zLine_P (fo := fo) (q := ((n + 1) + 1)) (r := (n17 + 1)) (by simp [zU]) (by simp [zU]) (by simp [zU]) (by omega) ((f18 _ (by omega)).1.trans ((a17 _ (by omega)).trans ((w13.1 _ (by omega)).1.trans tfo))) ((f18 _ (by omega)).1.trans t17) t18 (by omega) (by omega) (by omega)) (fun T22 r22 t22 m22 => ?_)
        refine z_astore (lv2 := [(11, _), (10, _), (9, _), (8, _), (0, _), (1, _), (2, _), (3, _), (4, _), (5, _), (6, _), (7, _)]) (pc2 := 201) rfl rfl rfl rfl ?_
        refine z_aload (pc2 := 203) rfl rfl rfl ?_
        refine z_aload_n (pc2 := 204) rfl rfl rfl ?_
        refine z_getI (pc2 := 207) 0 rfl rfl rfl rfl rfl ((r22 _ (by omega)).trans ((f18 _ (by omega)).1.trans ((a17 _ (by omega)).trans ((w13.1 _ (by omega)).1.trans t9)))) ?_
        intro v23 e23 r23 k23
        clear k23
        clear e23
        refine z_iload (pc2 := 209) rfl rfl rfl ?_
        refine z_iadd (pc2 := 210) rfl rfl ?_
        refine z_putI_any (pc2 := 213) rfl rfl rfl rfl rfl rfl t22 (fun _ _ => True.intro) (fun u24 u24r => ?_)
        refine z_aload (pc2 := 215) rfl rfl rfl ?_
        refine z_iload (pc2 := 217) rfl rfl rfl ?_
        refine z_putI_any (pc2 := 220) rfl rfl rfl rfl rfl rfl t22 (fun _ _ => True.intro) (fun u25 u25r => ?_)
        refine z_aload (pc2 := 222) rfl rfl rfl ?_
        refine z_aload_n (pc2 := 223) rfl rfl rfl ?_
        refine z_iload (pc2 := 225) rfl rfl rfl ?_
        refine z_iload (pc2 := 227) rfl rfl rfl ?_
        refine z_iload (pc2 := 229) rfl rfl rfl ?_
        refine z_callV (y2 := 14) (as := [_, _, _]) (rest := [_]) (pc2 := 232) rfl rfl rfl rfl ((r22 _ (by omega)).trans ((f18 _ (by omega)).1.trans ((a17 _ (by omega)).trans ((w13.1 _ (by omega)).1.trans t9)))) rfl ?_
        refine c_Composer_badnessOf (by omega) (fun a h1 h2 => (((zTn_r (zTn_t (m := n17) (zTn_t (m := (n + 1)) (zTn_n zTn_rf w13 (by omega)) a17 (by omega)) (fun b hb => (f18 b hb).1) (by omega)) r22 (by omega)) : zTn n _ _) a (by omega)).trans (hC a h1 h2)) (by omega) (by omega) (by omega) (by first | exact (by rw [zU_row _ _ _ (by omega)]; first | exact (by rw [zU_row _ _ _ (by omega)]; first | exact (by rw [zU_row _ _ _ (by omega)]; first | exact (by rw [(f18 9 (by omega)).2.2]; first | exact (by rw [d17 9 6 (by unfold zIn; omega)]; first | exact (by rw [(w13.1 9 (by omega)).2.2.1]; first | exact hrd | exact Eq.symm hrd) | exact Eq.symm (by rw [(w13.1 9 (by omega)).2.2.1]; first | exact hrd | exact Eq.symm hrd)) | exact Eq.symm (by rw [d17 9 6 (by unfold zIn; omega)]; first | exact (by rw [(w13.1 9 (by omega)).2.2.1]; first | exact hrd | exact Eq.symm hrd) | exact Eq.symm (by rw [(w13.1 9 (by omega)).2.2.1]; first | exact hrd | exact Eq.symm hrd))) | exact Eq.symm (by rw [(f18 9 (by omega)).2.2]; first | exact (by rw [d17 9 6 (by unfold zIn; omega)]; first | exact (by rw [(w13.1 9 (by omega)).2.2.1]; first | exact hrd | exact Eq.symm hrd) | exact Eq.symm (by rw [(w13.1 9 (by omega)).2.2.1]; first | exact hrd | exact Eq.symm hrd)) | exact Eq.symm (by rw [d17 9 6 (by unfold zIn; omega)]; first | exact (by rw [(w13.1 9 (by omega)).2.2.1]; first | exact hrd | exact Eq.symm hrd) | exact Eq.symm (by rw [(w13.1 9 (by omega)).2.2.1]; first | exact hrd | exact Eq.symm hrd)))) | exact Eq.symm (by rw [zU_row _ _ _ (by omega)]; first | exact (by rw [(f18 9 (by omega)).2.2]; first | exact (by rw [d17 9 6 (by unfold zIn; omega)]; first | exact (by rw [(w13.1 9 (by omega)).2.2.1]; first | exact hrd | exact Eq.symm hrd) | exact Eq.symm (by rw [(w13.1 9 (by omega)).2.2.1]; first | exact hrd | exact Eq.symm hrd)) | exact Eq.symm (by rw [d17 9 6 (by unfold zIn; omega)]; first | exact (by rw [(w13.1 9 (by omega)).2.2.1]; first | exact hrd | exact Eq.symm hrd) | exact Eq.symm (by rw [(w13.1 9 (by omega)).2.2.1]; first | exact hrd | exact Eq.symm hrd))) | exact Eq.symm (by rw [(f18 9 (by omega)).2.2]; first | exact (by rw [d17 9 6 (by unfold zIn; omega)]; first | exact (by rw [(w13.1 9 (by omega)).2.2.1]; first | exact hrd | exact Eq.symm hrd) | exact Eq.symm (by rw [(w13.1 9 (by omega)).2.2.1]; first | exact hrd | exact Eq.symm hrd)) | exact Eq.symm (by rw [d17 9 6 (by unfold zIn; omega)]; first | exact (by rw [(w13.1 9 (by omega)).2.2.1]; first | exact hrd | exact Eq.symm hrd) | exact Eq.symm (by rw [(w13.1 9 (by omega)).2.2.1]; first | exact hrd | exact Eq.symm hrd))))) | exact Eq.symm (by rw [zU_row _ _ _ (by omega)]; first | exact (by rw [zU_row _ _ _ (by omega)]; first | exact (by rw [(f18 9 (by omega)).2.2]; first | exact (by rw [d17 9 6 (by unfold zIn; omega)]; first | exact (by rw [(w13.1 9 (by omega)).2.2.1]; first | exact hrd | exact Eq.symm hrd) | exact Eq.symm (by rw [(w13.1 9 (by omega)).2.2.1]; first | exact hrd | exact Eq.symm hrd)) | exact Eq.symm (by rw [d17 9 6 (by unfold zIn; omega)]; first | exact (by rw [(w13.1 9 (by omega)).2.2.1]; first | exact hrd | exact Eq.symm hrd) | exact Eq.symm (by rw [(w13.1 9 (by omega)).2.2.1]; first | exact hrd | exact Eq.symm hrd))) | exact Eq.symm (by rw [(f18 9 (by omega)).2.2]; first | exact (by rw [d17 9 6 (by unfold zIn; omega)]; first | exact (by rw [(w13.1 9 (by omega)).2.2.1]; first | exact hrd | exact Eq.symm hrd) | exact Eq.symm (by rw [(w13.1 9 (by omega)).2.2.1]; first | exact hrd | exact Eq.symm hrd)) | exact Eq.symm (by rw [d17 9 6 (by unfold zIn; omega)]; first | exact (by rw [(w13.1 9 (by omega)).2.2.1]; first | exact hrd | exact Eq.symm hrd) | exact Eq.symm (by rw [(w13.1 9 (by omega)).2.2.1]; first | exact hrd | exact Eq.symm hrd)))) | exact Eq.symm (by rw [zU_row _ _ _ (by omega)]; first | exact (by rw [(f18 9 (by omega)).2.2]; first | exact (by rw [d17 9 6 (by unfold zIn; omega)]; first | exact (by rw [(w13.1 9 (by omega)).2.2.1]; first | exact hrd | exact Eq.symm hrd) | exact Eq.symm (by rw [(w13.1 9 (by omega)).2.2.1]; first | exact hrd | exact Eq.symm hrd)) | exact Eq.symm (by rw [d17 9 6 (by unfold zIn; omega)]; first | exact (by rw [(w13.1 9 (by omega)).2.2.1]; first | exact hrd | exact Eq.symm hrd) | exact Eq.symm (by rw [(w13.1 9 (by omega)).2.2.1]; first | exact hrd | exact Eq.symm hrd))) | exact Eq.symm (by rw [(f18 9 (by omega)).2.2]; first | exact (by rw [d17 9 6 (by unfold zIn; omega)]; first | exact (by rw [(w13.1 9 (by omega)).2.2.1]; first | exact hrd | exact Eq.symm hrd) | exact Eq.symm (by rw [(w13.1 9 (by omega)).2.2.1]; first | exact hrd | exact Eq.symm hrd)) | exact Eq.symm (by rw [d17 9 6 (by unfold zIn; omega)]; first | exact (by rw [(w13.1 9 (by omega)).2.2.1]; first | exact hrd | exact Eq.symm hrd) | exact Eq.symm (by rw [(w13.1 9 (by omega)).2.2.1]; first | exact hrd | exact Eq.symm hrd)))))) | exact Eq.symm (by rw [zU_row _ _ _ (by omega)]; first | exact (by rw [zU_row _ _ _ (by omega)]; first | exact (by rw [zU_row _ _ _ (by omega)]; first | exact (by rw [(f18 9 (by omega)).2.2]; first | exact (by rw [d17 9 6 (by unfold zIn; omega)]; first | exact (by rw [(w13.1 9 (by omega)).2.2.1]; first | exact hrd | exact Eq.symm hrd) | exact Eq.symm (by rw [(w13.1 9 (by omega)).2.2.1]; first | exact hrd | exact Eq.symm hrd)) | exact Eq.symm (by rw [d17 9 6 (by unfold zIn; omega)]; first | exact (by rw [(w13.1 9 (by omega)).2.2.1]; first | exact hrd | exact Eq.symm hrd) | exact Eq.symm (by rw [(w13.1 9 (by omega)).2.2.1]; first | exact hrd | exact Eq.symm hrd))) | exact Eq.symm (by rw [(f18 9 (by omega)).2.2]; first | exact (by rw [d17 9 6 (by unfold zIn; omega)]; first | exact (by rw [(w13.1 9 (by omega)).2.2.1]; first | exact hrd | exact Eq.symm hrd) | exact Eq.symm (by rw [(w13.1 9 (by omega)).2.2.1]; first | exact hrd | exact Eq.symm hrd)) | exact Eq.symm (by rw [d17 9 6 (by unfold zIn; omega)]; first | exact (by rw [(w13.1 9 (by omega)).2.2.1]; first | exact hrd | exact Eq.symm hrd) | exact Eq.symm (by rw [(w13.1 9 (by omega)).2.2.1]; first | exact hrd | exact Eq.symm hrd)))) | exact Eq.symm (by rw [zU_row _ _ _ (by omega)]; first | exact (by rw [(f18 9 (by omega)).2.2]; first | exact (by rw [d17 9 6 (by unfold zIn; omega)]; first | exact (by rw [(w13.1 9 (by omega)).2.2.1]; first | exact hrd | exact Eq.symm hrd) | exact Eq.symm (by rw [(w13.1 9 (by omega)).2.2.1]; first | exact hrd | exact Eq.symm hrd)) | exact Eq.symm (by rw [d17 9 6 (by unfold zIn; omega)]; first | exact (by rw [(w13.1 9 (by omega)).2.2.1]; first | exact hrd | exact Eq.symm hrd) | exact Eq.symm (by rw [(w13.1 9 (by omega)).2.2.1]; first | exact hrd | exact Eq.symm hrd))) | exact Eq.symm (by rw [(f18 9 (by omega)).2.2]; first | exact (by rw [d17 9 6 (by unfold zIn; omega)]; first | exact (by rw [(w13.1 9 (by omega)).2.2.1]; first | exact hrd | exact Eq.symm hrd) | exact Eq.symm (by rw [(w13.1 9 (by omega)).2.2.1]; first | exact hrd | exact Eq.symm hrd)) | exact Eq.symm (by rw [d17 9 6 (by unfold zIn; omega)]; first | exact (by rw [(w13.1 9 (by omega)).2.2.1]; first | exact hrd | exact Eq.symm hrd) | exact Eq.symm (by rw [(w13.1 9 (by omega)).2.2.1]; first | exact hrd | exact Eq.symm hrd))))) | exact Eq.symm (by rw [zU_row _ _ _ (by omega)]; first | exact (by rw [zU_row _ _ _ (by omega)]; first | exact (by rw [(f18 9 (by omega)).2.2]; first | exact (by rw [d17 9 6 (by unfold zIn; omega)]; first | exact (by rw [(w13.1 9 (by omega)).2.2.1]; first | exact hrd | exact Eq.symm hrd) | exact Eq.symm (by rw [(w13.1 9 (by omega)).2.2.1]; first | exact hrd | exact Eq.symm hrd)) | exact Eq.symm (by rw [d17 9 6 (by unfold zIn; omega)]; first | exact (by rw [(w13.1 9 (by omega)).2.2.1]; first | exact hrd | exact Eq.symm hrd) | exact Eq.symm (by rw [(w13.1 9 (by omega)).2.2.1]; first | exact hrd | exact Eq.symm hrd))) | exact Eq.symm (by rw [(f18 9 (by omega)).2.2]; first | exact (by rw [d17 9 6 (by unfold zIn; omega)]; first | exact (by rw [(w13.1 9 (by omega)).2.2.1]; first | exact hrd | exact Eq.symm hrd) | exact Eq.symm (by rw [(w13.1 9 (by omega)).2.2.1]; first | exact hrd | exact Eq.symm hrd)) | exact Eq.symm (by rw [d17 9 6 (by unfold zIn; omega)]; first | exact (by rw [(w13.1 9 (by omega)).2.2.1]; first | exact hrd | exact Eq.symm hrd) | exact Eq.symm (by rw [(w13.1 9 (by omega)).2.2.1]; first | exact hrd | exact Eq.symm hrd)))) | exact Eq.symm (by rw [zU_row _ _ _ (by omega)]; first | exact (by rw [(f18 9 (by omega)).2.2]; first | exact (by rw [d17 9 6 (by unfold zIn; omega)]; first | exact (by rw [(w13.1 9 (by omega)).2.2.1]; first | exact hrd | exact Eq.symm hrd) | exact Eq.symm (by rw [(w13.1 9 (by omega)).2.2.1]; first | exact hrd | exact Eq.symm hrd)) | exact Eq.symm (by rw [d17 9 6 (by unfold zIn; omega)]; first | exact (by rw [(w13.1 9 (by omega)).2.2.1]; first | exact hrd | exact Eq.symm hrd) | exact Eq.symm (by rw [(w13.1 9 (by omega)).2.2.1]; first | exact hrd | exact Eq.symm hrd))) | exact Eq.symm (by rw [(f18 9 (by omega)).2.2]; first | exact (by rw [d17 9 6 (by unfold zIn; omega)]; first | exact (by rw [(w13.1 9 (by omega)).2.2.1]; first | exact hrd | exact Eq.symm hrd) | exact Eq.symm (by rw [(w13.1 9 (by omega)).2.2.1]; first | exact hrd | exact Eq.symm hrd)) | exact Eq.symm (by rw [d17 9 6 (by unfold zIn; omega)]; first | exact (by rw [(w13.1 9 (by omega)).2.2.1]; first | exact hrd | exact Eq.symm hrd) | exact Eq.symm (by rw [(w13.1 9 (by omega)).2.2.1]; first | exact hrd | exact Eq.symm hrd))))))) (by first | exact (by rw [zU_row _ _ _ (by omega)]; first | exact (by rw [zU_row _ _ _ (by omega)]; first | exact (by rw [zU_row _ _ _ (by omega)]; first | exact (by rw [(f18 9 (by omega)).2.2]; first | exact (by rw [d17 9 7 (by unfold zIn; omega)]; first | exact (by rw [(w13.1 9 (by omega)).2.2.1]; first | exact hcf | exact Eq.symm hcf) | exact Eq.symm (by rw [(w13.1 9 (by omega)).2.2.1]; first | exact hcf | exact Eq.symm hcf)) | exact Eq.symm (by rw [d17 9 7 (by unfold zIn; omega)]; first | exact (by rw [(w13.1 9 (by omega)).2.2.1]; first | exact hcf | exact Eq.symm hcf) | exact Eq.symm (by rw [(w13.1 9 (by omega)).2.2.1]; first | exact hcf | exact Eq.symm hcf))) | exact Eq.symm (by rw [(f18 9 (by omega)).2.2]; first | exact (by rw [d17 9 7 (by unfold zIn; omega)]; first | exact (by rw [(w13.1 9 (by omega)).2.2.1]; first | exact hcf | exact Eq.symm hcf) | exact Eq.symm (by rw [(w13.1 9 (by omega)).2.2.1]; first | exact hcf | exact Eq.symm hcf)) | exact Eq.symm (by rw [d17 9 7 (by unfold zIn; omega)]; first | exact (by rw [(w13.1 9 (by omega)).2.2.1]; first | exact hcf | exact Eq.symm hcf) | exact Eq.symm (by rw [(w13.1 9 (by omega)).2.2.1]; first | exact hcf | exact Eq.symm hcf)))) | exact Eq.symm (by rw [zU_row _ _ _ (by omega)]; first | exact (by rw [(f18 9 (by omega)).2.2]; first | exact (by rw [d17 9 7 (by unfold zIn; omega)]; first | exact (by rw [(w13.1 9 (by omega)).2.2.1]; first | exact hcf | exact Eq.symm hcf) | exact Eq.symm (by rw [(w13.1 9 (by omega)).2.2.1]; first | exact hcf | exact Eq.symm hcf)) | exact Eq.symm (by rw [d17 9 7 (by unfold zIn; omega)]; first | exact (by rw [(w13.1 9 (by omega)).2.2.1]; first | exact hcf | exact Eq.symm hcf) | exact Eq.symm (by rw [(w13.1 9 (by omega)).2.2.1]; first | exact hcf | exact Eq.symm hcf))) | exact Eq.symm (by rw [(f18 9 (by omega)).2.2]; first | exact (by rw [d17 9 7 (by unfold zIn; omega)]; first | exact (by rw [(w13.1 9 (by omega)).2.2.1]; first | exact hcf | exact Eq.symm hcf) | exact Eq.symm (by rw [(w13.1 9 (by omega)).2.2.1]; first | exact hcf | exact Eq.symm hcf)) | exact Eq.symm (by rw [d17 9 7 (by unfold zIn; omega)]; first | exact (by rw [(w13.1 9 (by omega)).2.2.1]; first | exact hcf | exact Eq.symm hcf) | exact Eq.symm (by rw [(w13.1 9 (by omega)).2.2.1]; first | exact hcf | exact Eq.symm hcf))))) | exact Eq.symm (by rw [zU_row _ _ _ (by omega)]; first | exact (by rw [zU_row _ _ _ (by omega)]; first | exact (by rw [(f18 9 (by omega)).2.2]; first | exact (by rw [d17 9 7 (by unfold zIn; omega)]; first | exact (by rw [(w13.1 9 (by omega)).2.2.1]; first | exact hcf | exact Eq.symm hcf) | exact Eq.symm (by rw [(w13.1 9 (by omega)).2.2.1]; first | exact hcf | exact Eq.symm hcf)) | exact Eq.symm (by rw [d17 9 7 (by unfold zIn; omega)]; first | exact (by rw [(w13.1 9 (by omega)).2.2.1]; first | exact hcf | exact Eq.symm hcf) | exact Eq.symm (by rw [(w13.1 9 (by omega)).2.2.1]; first | exact hcf | exact Eq.symm hcf))) | exact Eq.symm (by rw [(f18 9 (by omega)).2.2]; first | exact (by rw [d17 9 7 (by unfold zIn; omega)]; first | exact (by rw [(w13.1 9 (by omega)).2.2.1]; first | exact hcf | exact Eq.symm hcf) | exact Eq.symm (by rw [(w13.1 9 (by omega)).2.2.1]; first | exact hcf | exact Eq.symm hcf)) | exact Eq.symm (by rw [d17 9 7 (by unfold zIn; omega)]; first | exact (by rw [(w13.1 9 (by omega)).2.2.1]; first | exact hcf | exact Eq.symm hcf) | exact Eq.symm (by rw [(w13.1 9 (by omega)).2.2.1]; first | exact hcf | exact Eq.symm hcf)))) | exact Eq.symm (by rw [zU_row _ _ _ (by omega)]; first | exact (by rw [(f18 9 (by omega)).2.2]; first | exact (by rw [d17 9 7 (by unfold zIn; omega)]; first | exact (by rw [(w13.1 9 (by omega)).2.2.1]; first | exact hcf | exact Eq.symm hcf) | exact Eq.symm (by rw [(w13.1 9 (by omega)).2.2.1]; first | exact hcf | exact Eq.symm hcf)) | exact Eq.symm (by rw [d17 9 7 (by unfold zIn; omega)]; first | exact (by rw [(w13.1 9 (by omega)).2.2.1]; first | exact hcf | exact Eq.symm hcf) | exact Eq.symm (by rw [(w13.1 9 (by omega)).2.2.1]; first | exact hcf | exact Eq.symm hcf))) | exact Eq.symm (by rw [(f18 9 (by omega)).2.2]; first | exact (by rw [d17 9 7 (by unfold zIn; omega)]; first | exact (by rw [(w13.1 9 (by omega)).2.2.1]; first | exact hcf | exact Eq.symm hcf) | exact Eq.symm (by rw [(w13.1 9 (by omega)).2.2.1]; first | exact hcf | exact Eq.symm hcf)) | exact Eq.symm (by rw [d17 9 7 (by unfold zIn; omega)]; first | exact (by rw [(w13.1 9 (by omega)).2.2.1]; first | exact hcf | exact Eq.symm hcf) | exact Eq.symm (by rw [(w13.1 9 (by omega)).2.2.1]; first | exact hcf | exact Eq.symm hcf)))))) | exact Eq.symm (by rw [zU_row _ _ _ (by omega)]; first | exact (by rw [zU_row _ _ _ (by omega)]; first | exact (by rw [zU_row _ _ _ (by omega)]; first | exact (by rw [(f18 9 (by omega)).2.2]; first | exact (by rw [d17 9 7 (by unfold zIn; omega)]; first | exact (by rw [(w13.1 9 (by omega)).2.2.1]; first | exact hcf | exact Eq.symm hcf) | exact Eq.symm (by rw [(w13.1 9 (by omega)).2.2.1]; first | exact hcf | exact Eq.symm hcf)) | exact Eq.symm (by rw [d17 9 7 (by unfold zIn; omega)]; first | exact (by rw [(w13.1 9 (by omega)).2.2.1]; first | exact hcf | exact Eq.symm hcf) | exact Eq.symm (by rw [(w13.1 9 (by omega)).2.2.1]; first | exact hcf | exact Eq.symm hcf))) | exact Eq.symm (by rw [(f18 9 (by omega)).2.2]; first | exact (by rw [d17 9 7 (by unfold zIn; omega)]; first | exact (by rw [(w13.1 9 (by omega)).2.2.1]; first | exact hcf | exact Eq.symm hcf) | exact Eq.symm (by rw [(w13.1 9 (by omega)).2.2.1]; first | exact hcf | exact Eq.symm hcf)) | exact Eq.symm (by rw [d17 9 7 (by unfold zIn; omega)]; first | exact (by rw [(w13.1 9 (by omega)).2.2.1]; first | exact hcf | exact Eq.symm hcf) | exact Eq.symm (by rw [(w13.1 9 (by omega)).2.2.1]; first | exact hcf | exact Eq.symm hcf)))) | exact Eq.symm (by rw [zU_row _ _ _ (by omega)]; first | exact (by rw [(f18 9 (by omega)).2.2]; first | exact (by rw [d17 9 7 (by unfold zIn; omega)]; first | exact (by rw [(w13.1 9 (by omega)).2.2.1]; first | exact hcf | exact Eq.symm hcf) | exact Eq.symm (by rw [(w13.1 9 (by omega)).2.2.1]; first | exact hcf | exact Eq.symm hcf)) | exact Eq.symm (by rw [d17 9 7 (by unfold zIn; omega)]; first | exact (by rw [(w13.1 9 (by omega)).2.2.1]; first | exact hcf | exact Eq.symm hcf) | exact Eq.symm (by rw [(w13.1 9 (by omega)).2.2.1]; first | exact hcf | exact Eq.symm hcf))) | exact Eq.symm (by rw [(f18 9 (by omega)).2.2]; first | exact (by rw [d17 9 7 (by unfold zIn; omega)]; first | exact (by rw [(w13.1 9 (by omega)).2.2.1]; first | exact hcf | exact Eq.symm hcf) | exact Eq.symm (by rw [(w13.1 9 (by omega)).2.2.1]; first | exact hcf | exact Eq.symm hcf)) | exact Eq.symm (by rw [d17 9 7 (by unfold zIn; omega)]; first | exact (by rw [(w13.1 9 (by omega)).2.2.1]; first | exact hcf | exact Eq.symm hcf) | exact Eq.symm (by rw [(w13.1 9 (by omega)).2.2.1]; first | exact hcf | exact Eq.symm hcf))))) | exact Eq.symm (by rw [zU_row _ _ _ (by omega)]; first | exact (by rw [zU_row _ _ _ (by omega)]; first | exact (by rw [(f18 9 (by omega)).2.2]; first | exact (by rw [d17 9 7 (by unfold zIn; omega)]; first | exact (by rw [(w13.1 9 (by omega)).2.2.1]; first | exact hcf | exact Eq.symm hcf) | exact Eq.symm (by rw [(w13.1 9 (by omega)).2.2.1]; first | exact hcf | exact Eq.symm hcf)) | exact Eq.symm (by rw [d17 9 7 (by unfold zIn; omega)]; first | exact (by rw [(w13.1 9 (by omega)).2.2.1]; first | exact hcf | exact Eq.symm hcf) | exact Eq.symm (by rw [(w13.1 9 (by omega)).2.2.1]; first | exact hcf | exact Eq.symm hcf))) | exact Eq.symm (by rw [(f18 9 (by omega)).2.2]; first | exact (by rw [d17 9 7 (by unfold zIn; omega)]; first | exact (by rw [(w13.1 9 (by omega)).2.2.1]; first | exact hcf | exact Eq.symm hcf) | exact Eq.symm (by rw [(w13.1 9 (by omega)).2.2.1]; first | exact hcf | exact Eq.symm hcf)) | exact Eq.symm (by rw [d17 9 7 (by unfold zIn; omega)]; first | exact (by rw [(w13.1 9 (by omega)).2.2.1]; first | exact hcf | exact Eq.symm hcf) | exact Eq.symm (by rw [(w13.1 9 (by omega)).2.2.1]; first | exact hcf | exact Eq.symm hcf)))) | exact Eq.symm (by rw [zU_row _ _ _ (by omega)]; first | exact (by rw [(f18 9 (by omega)).2.2]; first | exact (by rw [d17 9 7 (by unfold zIn; omega)]; first | exact (by rw [(w13.1 9 (by omega)).2.2.1]; first | exact hcf | exact Eq.symm hcf) | exact Eq.symm (by rw [(w13.1 9 (by omega)).2.2.1]; first | exact hcf | exact Eq.symm hcf)) | exact Eq.symm (by rw [d17 9 7 (by unfold zIn; omega)]; first | exact (by rw [(w13.1 9 (by omega)).2.2.1]; first | exact hcf | exact Eq.symm hcf) | exact Eq.symm (by rw [(w13.1 9 (by omega)).2.2.1]; first | exact hcf | exact Eq.symm hcf))) | exact Eq.symm (by rw [(f18 9 (by omega)).2.2]; first | exact (by rw [d17 9 7 (by unfold zIn; omega)]; first | exact (by rw [(w13.1 9 (by omega)).2.2.1]; first | exact hcf | exact Eq.symm hcf) | exact Eq.symm (by rw [(w13.1 9 (by omega)).2.2.1]; first | exact hcf | exact Eq.symm hcf)) | exact Eq.symm (by rw [d17 9 7 (by unfold zIn; omega)]; first | exact (by rw [(w13.1 9 (by omega)).2.2.1]; first | exact hcf | exact Eq.symm hcf) | exact Eq.symm (by rw [(w13.1 9 (by omega)).2.2.1]; first | exact hcf | exact Eq.symm hcf))))))) ((r22 _ (by omega)).trans ((f18 _ (by omega)).1.trans ((a17 _ (by omega)).trans ((w13.1 _ (by omega)).1.trans tfo)))) (by omega) fo9 (fun w26 => ?_)
        show zB _ _ _ _ _ _ [_, _] _ _
        refine z_putI_any (pc2 := 235) rfl rfl rfl rfl rfl rfl t22 (fun _ _ => True.intro) (fun u27 u27r => ?_)
        refine z_aload (pc2 := 237) rfl rfl rfl ?_
        refine z_iload (pc2 := 239) rfl rfl rfl ?_
        refine z_putZ (pc2 := 242) rfl rfl rfl rfl rfl rfl t22 (by omega) True.intro ?_
        refine z_aload (pc2 := 244) rfl rfl rfl ?_
        refine z_aret rfl rfl ?_
        exact hK _ _ _ _ _ _ (zTn_r (zTn_t (m := n17) (zTn_t (m := (n + 1)) (zTn_n zTn_rf w13 (by omega)) a17 (by omega)) (fun b hb => (f18 b hb).1) (by omega)) r22 (by omega)) (zTm_tr (zTm_tr (zTm_tr (zTm_tr (zTm_rf _) (zTk_m w13.2.2.2.2)) b17) m18) m22) (zQs_u (zQs_u (zQs_u (zQs_u (zQs_u (zQs_u (zQs_u (zQs_u (zQs_u (zQs_u (zQs_u (zQs_u (zQs_u (zQs_t (zQs_t (zQs_n (zQs_t (fun a k ha => hI2 a k (by unfold zIl at ha; omega)) (fun a k ha => j5 a k (by unfold zIl at ha; omega))) w13 (fun _ => by unfold zIl; omega)) (fun a k ha => c17 a k (by unfold zIl at ha; unfold zIm; omega))) (fun a k ha => congrFun (f18 a (by unfold zIl at ha; omega)).2.1 k)) (by unfold zIl; omega)) (by unfold zIl; omega)) (by unfold zIl; omega)) (by unfold zIl; omega)) (by unfold zIl; omega)) (by unfold zIl; omega)) (by unfold zIl; omega)) (by unfold zIl; omega)) (by unfold zIl; omega)) (by unfold zIl; omega)) (by unfold zIl; omega)) (by unfold zIl; omega)) (by unfold zIl; omega)) (zPs_v (zPs_v (zPs_v (zPs_t (zPs_t (zPs_n zPs_rf w13 (fun _ => by unfold zIn; omega)) (fun a k ha => d17 a k (by unfold zIn at ha ⊢; omega))) (fun a k ha => congrFun (f18 a (by unfold zIn at ha; omega)).2.2 k)) (by unfold zIn; omega)) (by unfold zIn; omega)) (by unfold zIn; omega)) t22 (by omega)
      ·
        refine z_aload_n (pc2 := 101) rfl rfl rfl ?_
        refine z_iconst (pc2 := 102) rfl rfl ?_
        refine z_iconst (pc2 := 103) rfl rfl ?_
        refine z_aload_n (pc2 := 104) rfl rfl rfl ?_
        refine z_getP (pc2 := 107) rfl rfl rfl rfl t9 ?_
        intro p28 p28e p28k
        clear p28k; replace p28e : p28 = some fo := by rw [p28e]; first | exact hcf | exact Eq.symm hcf | (simp [zU]; first | done | exact hcf | exact Eq.symm hcf | omega) | (refine Eq.trans (congrArg _ ?_) (Eq.symm hcf); omega)
        subst p28e
        refine z_getP (pc2 := 110) rfl rfl rfl rfl tfo ?_
        intro p29 p29e p29k
        obtain ⟨q30, rfl, q309, tq30, -⟩ := p29k
        replace tq30 : _ = ((2, 0, [(un), 0]) : zT) := tq30
        refine zB_le tq30 trivial (fun q30l => ?_)
        refine z_iconst (pc2 := 111) rfl rfl ?_
        refine z_iald (pc2 := 112) rfl rfl tq30 (by omega) (by omega) (by omega) ?_
        intro v31 e31 r31 k31
        clear k31
        clear e31
        refine z_callV (y2 := 9) (as := [_, _, _]) (rest := []) (pc2 := 115) rfl rfl rfl rfl t9 rfl ?_
        refine z_inl ?_
        refine z_lv (lv2 := [(0, _), (1, _), (2, _), (3, _)]) ⟨rfl, rfl, rfl, rfl, trivial⟩ ?_
        refine z_aload_n (pc2 := 1) rfl rfl rfl ?_
        refine z_dup (pc2 := 2) rfl rfl rfl ?_
        refine z_getI (pc2 := 5) 0 rfl rfl rfl rfl rfl t9 ?_
        intro v32 e32 r32 k32
        clear k32
        clear e32
        refine z_aload_n (pc2 := 6) rfl rfl rfl ?_
        refine z_getP (pc2 := 9) rfl rfl rfl rfl t9 ?_
        intro p33 p33e p33k
        clear p33k; replace p33e : p33 = some fo := by rw [p33e]; first | exact hcf | exact Eq.symm hcf | (simp [zU]; first | done | exact hcf | exact Eq.symm hcf | omega) | (refine Eq.trans (congrArg _ ?_) (Eq.symm hcf); omega)
        subst p33e
        refine z_aload_n (pc2 := 10) rfl rfl rfl ?_
        refine z_getI (pc2 := 13) 0 rfl rfl rfl rfl rfl t9 ?_
        intro v34 e34 r34 k34
        replace k34 : (-1 : Int) ≤ v34 ∧ v34 ≤ 23 := k34
        refine z_iload_n (pc2 := 14) rfl rfl rfl ?_
        refine z_callV (y2 := 43) (as := [_, _]) (rest := [_, _]) (pc2 := 17) rfl rfl rfl rfl tfo rfl ?_
        refine c_Fount_kernOf hn hC (by omega) (by omega) (by omega) (by omega) tfo (by omega) (by omega) (fun w35 w35r => ?_)
        show zB _ _ _ _ _ _ [_, _, _] _ _
        refine z_iload_n (pc2 := 18) rfl rfl rfl ?_
        refine z_iadd (pc2 := 19) rfl rfl ?_
        refine z_iadd (pc2 := 20) rfl rfl ?_
        refine z_putI_any (pc2 := 23) rfl rfl rfl rfl rfl rfl t9 (fun _ _ => True.intro) (fun u36 u36r => ?_)
        refine z_aload_n (pc2 := 24) rfl rfl rfl ?_
        refine z_iload_n (pc2 := 25) rfl rfl rfl ?_
        refine z_putI (pc2 := 28) rfl rfl rfl rfl rfl rfl t9 (by omega) (by show (-1 : Int) ≤ _ ∧ _ ≤ 23; omega) ?_
        refine z_aload_n (pc2 := 29) rfl rfl rfl ?_
        refine z_dup (pc2 := 30) rfl rfl rfl ?_
        refine z_getI (pc2 := 33) 0 rfl rfl rfl rfl rfl t9 ?_
        intro v37 e37 r37 k37
        replace k37 : (0 : Int) ≤ v37 ∧ v37 ≤ 100 := k37
        replace e37 : (I2 9 12) = v37 := by rw [e37]; first | exact rfl | exact Eq.symm rfl | (simp [zU]; first | done | exact rfl | exact Eq.symm rfl | omega) | (refine Eq.trans (congrArg _ ?_) (Eq.symm rfl); omega)
        subst e37
        refine z_iconst (pc2 := 34) rfl rfl ?_
        refine z_iadd (pc2 := 35) rfl rfl ?_
        refine z_putI (pc2 := 38) rfl rfl rfl rfl rfl rfl t9 (by omega) (by show (0 : Int) ≤ _ ∧ _ ≤ 100; omega) ?_
        refine z_ret rfl rfl ?_
        show zB _ _ _ _ _ _ [] _ _
        refine z_aload_n (pc2 := 116) rfl rfl rfl ?_
        refine z_getI (pc2 := 119) 0 rfl rfl rfl rfl rfl t9 ?_
        intro v38 e38 r38 k38
        clear k38
        clear e38
        refine z_aload_n (pc2 := 120) rfl rfl rfl ?_
        refine z_getI (pc2 := 123) 0 rfl rfl rfl rfl rfl t9 ?_
        intro v39 e39 r39 k39
        clear k39
        clear e39
        refine z_isub (pc2 := 124) rfl rfl ?_
        refine z_istore (lv2 := [(8, _), (0, _), (1, _), (2, _), (3, _), (4, _), (5, _), (6, _), (7, _)]) (pc2 := 126) rfl rfl rfl rfl ?_
        refine z_aload_n (pc2 := 127) rfl rfl rfl ?_
        refine z_iload (pc2 := 129) rfl rfl rfl ?_
        refine z_iload (pc2 := 131) rfl rfl rfl ?_
        refine z_callV (y2 := 16) (as := [_, _]) (rest := []) (pc2 := 134) rfl rfl rfl rfl t9 rfl ?_
        refine c_Composer_justify hn hC (by omega) (by omega) hrd hcf tfo fol fo9 (fun w40 I40 j40 => ?_)
        show zB _ _ _ _ _ _ [_] _ _
        refine z_istore (lv2 := [(9, _), (8, _), (0, _), (1, _), (2, _), (3, _), (4, _), (5, _), (6, _), (7, _)]) (pc2 := 136) rfl rfl rfl rfl ?_
        refine z_aload_n (pc2 := 137) rfl rfl rfl ?_
        refine z_getI (pc2 := 140) 0 rfl rfl rfl rfl rfl t9 ?_
        intro v41 e41 r41 k41
        replace k41 : (0 : Int) ≤ v41 ∧ v41 ≤ 100 := k41
        clear e41
        refine z_aload_n (pc2 := 141) rfl rfl rfl ?_
        refine z_getI (pc2 := 144) 0 rfl rfl rfl rfl rfl t9 ?_
        intro v42 e42 r42 k42
        clear k42
        clear e42
        refine z_imul (pc2 := 145) rfl rfl ?_
        refine z_aload_n (pc2 := 146) rfl rfl rfl ?_
        refine z_getI (pc2 := 149) 0 rfl rfl rfl rfl rfl t9 ?_
        intro v44 e44 r44 k44
        replace k44 : (0 : Int) ≤ v44 ∧ v44 ≤ 100 := k44
        clear e44
        refine z_aload_n (pc2 := 150) rfl rfl rfl ?_
        refine z_getI (pc2 := 153) 0 rfl rfl rfl rfl rfl t9 ?_
        intro v45 e45 r45 k45
        clear k45
        clear e45
        refine z_imul (pc2 := 154) rfl rfl ?_
        refine z_iadd (pc2 := 155) rfl rfl ?_
        refine z_aload_n (pc2 := 156) rfl rfl rfl ?_
        refine z_getI (pc2 := 159) 0 rfl rfl rfl rfl rfl t9 ?_
        intro v47 e47 r47 k47
        clear k47
        clear e47
        refine z_iadd (pc2 := 160) rfl rfl ?_
        refine z_istore (lv2 := [(10, _), (9, _), (8, _), (0, _), (1, _), (2, _), (3, _), (4, _), (5, _), (6, _), (7, _)]) (pc2 := 162) rfl rfl rfl rfl ?_
        refine z_new (c := 4) (s := 12) (pc2 := 165) rfl rfl rfl rfl (fun _ => True.intro) (fun T48 I48 P48 G48 w48 => ?_)
        refine z_dup (pc2 := 166) rfl rfl rfl ?_
        refine z_iload_n (pc2 := 167) rfl rfl rfl ?_
        refine z_aload_n (pc2 := 168) rfl rfl rfl ?_
        refine z_getP (pc2 := 171) rfl rfl rfl rfl ((w48.1 _ (by omega)).1.trans t9) ?_
        intro p49 p49e p49k
        clear p49k; replace p49e : p49 = some fo := by rw [p49e]; first | exact (by rw [(w48.1 9 (by omega)).2.2.1]; first | exact hcf | exact Eq.symm hcf) | exact Eq.symm (by rw [(w48.1 9 (by omega)).2.2.1]; first | exact hcf | exact Eq.symm hcf) | (simp [zU]; first | done | exact (by rw [(w48.1 9 (by omega)).2.2.1]; first | exact hcf | exact Eq.symm hcf) | exact Eq.symm (by rw [(w48.1 9 (by omega)).2.2.1]; first | exact hcf | exact Eq.symm hcf) | omega) | (refine Eq.trans (congrArg _ ?_) (Eq.symm (by rw [(w48.1 9 (by omega)).2.2.1]; first | exact hcf | exact Eq.symm hcf)); omega)
        subst p49e
        refine z_aload_n (pc2 := 172) rfl rfl rfl ?_
        refine z_getI (pc2 := 175) 0 rfl rfl rfl rfl rfl ((w48.1 _ (by omega)).1.trans t9) ?_
        intro v50 e50 r50 k50
        clear k50
        clear e50
        refine z_aload_n (pc2 := 176) rfl rfl rfl ?_
        refine z_getI (pc2 := 179) 0 rfl rfl rfl rfl rfl ((w48.1 _ (by omega)).1.trans t9) ?_
        intro v51 e51 r51 k51
        replace k51 : (0 : Int) ≤ v51 ∧ v51 ≤ 40 := k51
        clear e51
        refine z_iload_n (pc2 := 180) rfl rfl rfl ?_
        refine z_aload_n (pc2 := 181) rfl rfl rfl ?_
        refine z_iload_n (pc2 := 182) rfl rfl rfl ?_
        refine z_iload (pc2 := 184) rfl rfl rfl ?_
        refine z_iload (pc2 := 186) rfl rfl rfl ?_
        refine z_callV (y2 := 18) (as := [_, _, _]) (rest := [_, _, _, _, _, _, _]) (pc2 := 189) rfl rfl rfl rfl ((w48.1 _ (by omega)).1.trans t9) rfl ?_
        have cu52 : ∀ b k, b ≤ 8 → I48 b k = I b k := fun b k hb => by rw [(w48.1 b (by omega)).2.1, j40 b k (by omega)]; first | exact hI2 b k (by omega) | (rw [zU_row _ _ _ (by omega), zU_row _ _ _ (by omega), zU_row _ _ _ (by omega)]; exact hI2 b k (by omega))
        have s1252 : I48 9 12 = I2 9 12 + z := by rw [(w48.1 9 (by omega)).2.1, j40 9 12 (by omega)]; first | omega | (simp [zU]; omega)
        refine c_Composer_makeSorts (c := c) (un := un) (s := I2 9 12 + z) (by omega) (fun a h1 h2 => (((zTn_n zTn_rf w48 (by omega)) : zTn n _ _) a (by omega)).trans (hC a h1 h2)) (by omega) (by omega) (by omega) (by omega) (by omega) (by omega) (by first | exact (by rw [(w48.1 9 (by omega)).2.2.1]; first | exact hrd | exact Eq.symm hrd) | exact Eq.symm (by rw [(w48.1 9 (by omega)).2.2.1]; first | exact hrd | exact Eq.symm hrd)) (by first | exact (by rw [(w48.1 9 (by omega)).2.2.1]; first | exact hcf | exact Eq.symm hcf) | exact Eq.symm (by rw [(w48.1 9 (by omega)).2.2.1]; first | exact hcf | exact Eq.symm hcf)) ((w48.1 _ (by omega)).1.trans tfo) (by omega) fo9 (by rw [(w48.1 5 (by omega)).2.2.1]; exact hrf) s1252 (fun i hi => zTw_q (htk i hi) (cu52 6 _ (by omega)) (cu52 7 _ (by omega)) (cu52 8 _ (by omega))) hawc (by rw [zCt_eq (r := I 6) (fun j => cu52 6 j (by omega)), js]) hz1 (fun n52 s52 T52 I52 P52 G52 a52 b52 c52 d52 t52 h52 => ?_)
        show zB _ _ _ _ _ _ [_, _, _, _, _, _, _, _] _ _
        refine z_aload_n (pc2 := 190) rfl rfl rfl ?_
        refine z_iload_n (pc2 := 191) rfl rfl rfl ?_
        refine z_iload (pc2 := 193) rfl rfl rfl ?_
        refine z_callV (y2 := 20) (as := [_, _]) (rest := [_, _, _, _, _, _, _, _]) (pc2 := 196) rfl rfl rfl rfl ((a52 _ (by omega)).trans ((w48.1 _ (by omega)).1.trans t9)) rfl ?_
        refine c_Composer_makeCalls (c := c) (un := un) (by omega) (fun a h1 h2 => (((zTn_t (m := (n + 1)) (zTn_n zTn_rf w48 (by omega)) a52 (by omega)) : zTn n _ _) a (by omega)).trans (hC a h1 h2)) (by omega) (by omega) (by omega) (by omega) (by first | exact (by rw [d52 9 6 (by unfold zIn; omega)]; first | exact (by rw [(w48.1 9 (by omega)).2.2.1]; first | exact hrd | exact Eq.symm hrd) | exact Eq.symm (by rw [(w48.1 9 (by omega)).2.2.1]; first | exact hrd | exact Eq.symm hrd)) | exact Eq.symm (by rw [d52 9 6 (by unfold zIn; omega)]; first | exact (by rw [(w48.1 9 (by omega)).2.2.1]; first | exact hrd | exact Eq.symm hrd) | exact Eq.symm (by rw [(w48.1 9 (by omega)).2.2.1]; first | exact hrd | exact Eq.symm hrd))) (fun i hi => zTw_q (htk i hi) ((c52 6 _ (by unfold zIm; omega)).trans (cu52 6 _ (by omega))) ((c52 7 _ (by unfold zIm; omega)).trans (cu52 7 _ (by omega))) ((c52 8 _ (by unfold zIm; omega)).trans (cu52 8 _ (by omega)))) hawc (fun u53 T53 I53 P53 G53 f53 t53 m53 b53 => ?_)
        show zB _ _ _ _ _ _ [_, _, _, _, _, _, _, _, _] _ _
        refine z_callP (y2 := 45) (as := [_, _, _, _, _, _, _]) (rest := [_]) (pc2 := 199) rfl rfl rfl rfl ?_
        refine z_inl ?_
        refine z_lv (lv2 := [(0, _), (1, _), (2, _), (3, _), (4, _), (5, _), (6, _), (7, _)]) ⟨rfl, rfl, rfl, rfl, rfl, rfl, rfl, rfl, trivial⟩ ?_
        refine z_aload_n (pc2 := 1) rfl rfl rfl ?_
        refine z_obj (pc2 := 4) rfl rfl rfl rfl ?_
        refine z_aload_n (pc2 := 5) rfl rfl rfl ?_
        refine z_iconst (pc2 := 6) rfl rfl ?_
        refine z_putI (pc2 := 9) rfl rfl rfl rfl rfl rfl ((f53 _ (by omega)).1.trans ((a52 _ (by omega)).trans w48.2.1)) (by omega) True.intro ?_
        refine z_aload_n (pc2 := 10) rfl rfl rfl ?_
        refine z_iconst (pc2 := 11) rfl rfl ?_
        refine z_putI (pc2 := 14) rfl rfl rfl rfl rfl rfl ((f53 _ (by omega)).1.trans ((a52 _ (by omega)).trans w48.2.1)) (by omega) True.intro ?_
        refine z_aload_n (pc2 := 15) rfl rfl rfl ?_
        refine z_iconst (pc2 := 16) rfl rfl ?_
        refine z_putI (pc2 := 19) rfl rfl rfl rfl rfl rfl ((f53 _ (by omega)).1.trans ((a52 _ (by omega)).trans w48.2.1)) (by omega) True.intro ?_
        refine z_aload_n (pc2 := 20) rfl rfl rfl ?_
        refine z_iconst (pc2 := 21) rfl rfl ?_
        refine z_putZ (pc2 := 24) rfl rfl rfl rfl rfl rfl ((f53 _ (by omega)).1.trans ((a52 _ (by omega)).trans w48.2.1)) (by omega) True.intro ?_
        refine z_aload_n (pc2 := 25) rfl rfl rfl ?_
        refine z_iload_n (pc2 := 26) rfl rfl rfl ?_
        refine z_putI_any (pc2 := 29) rfl rfl rfl rfl rfl rfl ((f53 _ (by omega)).1.trans ((a52 _ (by omega)).trans w48.2.1)) (fun _ _ => True.intro) (fun u54 u54r => ?_)
        refine z_aload_n (pc2 := 30) rfl rfl rfl ?_
        refine z_aload_n (pc2 := 31) rfl rfl rfl ?_
        refine z_putP (pc2 := 34) rfl rfl rfl rfl (by first | exact z_fitO _ _ | exact z_fitA _ _) rfl ((f53 _ (by omega)).1.trans ((a52 _ (by omega)).trans w48.2.1)) True.intro ?_
        refine z_aload_n (pc2 := 35) rfl rfl rfl ?_
        refine z_iload_n (pc2 := 36) rfl rfl rfl ?_
        refine z_putI (pc2 := 39) rfl rfl rfl rfl rfl rfl ((f53 _ (by omega)).1.trans ((a52 _ (by omega)).trans w48.2.1)) (by omega) True.intro ?_
        refine z_aload_n (pc2 := 40) rfl rfl rfl ?_
        refine z_iload (pc2 := 42) rfl rfl rfl ?_
        refine z_putI (pc2 := 45) rfl rfl rfl rfl rfl rfl ((f53 _ (by omega)).1.trans ((a52 _ (by omega)).trans w48.2.1)) (by omega) True.intro ?_
        refine z_aload_n (pc2 := 46) rfl rfl rfl ?_
        refine z_iload (pc2 := 48) rfl rfl rfl ?_
        refine z_putI_any (pc2 := 51) rfl rfl rfl rfl rfl rfl ((f53 _ (by omega)).1.trans ((a52 _ (by omega)).trans w48.2.1)) (fun _ _ => True.intro) (fun u55 u55r => ?_)
        refine z_aload_n (pc2 := 52) rfl rfl rfl ?_
        refine z_aload (pc2 := 54) rfl rfl rfl ?_
        refine z_putP (pc2 := 57) rfl rfl rfl rfl (by first | exact z_fitO _ _ | exact z_fitA _ _) rfl ((f53 _ (by omega)).1.trans ((a52 _ (by omega)).trans w48.2.1)) True.intro ?_
        refine z_aload_n (pc2 := 58) rfl rfl rfl ?_
        refine z_aload (pc2 := 60) rfl rfl rfl ?_
        refine z_putP (pc2 := 63) rfl rfl rfl rfl (by first | exact z_fitO _ _ | exact z_fitA _ _) rfl ((f53 _ (by omega)).1.trans ((a52 _ (by omega)).trans w48.2.1)) True.intro ?_
        refine z_aload_n (pc2 := 64) rfl rfl rfl ?_
        refine z_aload_n (pc2 := 65) rfl rfl rfl ?_
        refine z_getI (pc2 := 68) 0 rfl rfl rfl rfl rfl ((f53 _ (by omega)).1.trans ((a52 _ (by omega)).trans ((w48.1 _ (by omega)).1.trans tfo))) ?_
        intro v56 e56 r56 k56
        clear k56
        clear e56
        refine z_putI (pc2 := 71) rfl rfl rfl rfl rfl rfl ((f53 _ (by omega)).1.trans ((a52 _ (by omega)).trans w48.2.1)) (by omega) True.intro ?_
        refine z_ret rfl rfl ?_
        show zB _ _ _ _ _ _ [_] _ _
        refine zB_rtO (g := 1) (gs := []) ((f53 _ (by omega)).1.trans ((a52 _ (by omega)).trans w48.2.1)) zLine_I (zLine_P (fo := fo) (q := ((n + 1) + 1)) (r := (n52 + 1)) (by simp [zU]) (by simp [zU]) (by simp [zU]) (by omega) ((f53 _ (by omega)).1.trans ((a52 _ (by omega)).trans ((w48.1 _ (by omega)).1.trans tfo))) ((f53 _ (by omega)).1.trans t52) t53 (by omega) (by omega) (by omega)) (fun T57 r57 t57 m57 => ?_)
        refine z_astore (lv2 := [(11, _), (10, _), (9, _), (8, _), (0, _), (1, _), (2, _), (3, _), (4, _), (5, _), (6, _), (7, _)]) (pc2 := 201) rfl rfl rfl rfl ?_
        refine z_aload (pc2 := 203) rfl rfl rfl ?_
        refine z_aload_n (pc2 := 204) rfl rfl rfl ?_
        refine z_getI (pc2 := 207) 0 rfl rfl rfl rfl rfl ((r57 _ (by omega)).trans ((f53 _ (by omega)).1.trans ((a52 _ (by omega)).trans ((w48.1 _ (by omega)).1.trans t9)))) ?_
        intro v58 e58 r58 k58
        clear k58
        clear e58
        refine z_iload (pc2 := 209) rfl rfl rfl ?_
        refine z_iadd (pc2 := 210) rfl rfl ?_
        refine z_putI_any (pc2 := 213) rfl rfl rfl rfl rfl rfl t57 (fun _ _ => True.intro) (fun u59 u59r => ?_)
        refine z_aload (pc2 := 215) rfl rfl rfl ?_
        refine z_iload (pc2 := 217) rfl rfl rfl ?_
        refine z_putI_any (pc2 := 220) rfl rfl rfl rfl rfl rfl t57 (fun _ _ => True.intro) (fun u60 u60r => ?_)
        refine z_aload (pc2 := 222) rfl rfl rfl ?_
        refine z_aload_n (pc2 := 223) rfl rfl rfl ?_
        refine z_iload (pc2 := 225) rfl rfl rfl ?_
        refine z_iload (pc2 := 227) rfl rfl rfl ?_
        refine z_iload (pc2 := 229) rfl rfl rfl ?_
        refine z_callV (y2 := 14) (as := [_, _, _]) (rest := [_]) (pc2 := 232) rfl rfl rfl rfl ((r57 _ (by omega)).trans ((f53 _ (by omega)).1.trans ((a52 _ (by omega)).trans ((w48.1 _ (by omega)).1.trans t9)))) rfl ?_
        refine c_Composer_badnessOf (by omega) (fun a h1 h2 => (((zTn_r (zTn_t (m := n52) (zTn_t (m := (n + 1)) (zTn_n zTn_rf w48 (by omega)) a52 (by omega)) (fun b hb => (f53 b hb).1) (by omega)) r57 (by omega)) : zTn n _ _) a (by omega)).trans (hC a h1 h2)) (by omega) (by omega) (by omega) (by first | exact (by rw [zU_row _ _ _ (by omega)]; first | exact (by rw [zU_row _ _ _ (by omega)]; first | exact (by rw [zU_row _ _ _ (by omega)]; first | exact (by rw [(f53 9 (by omega)).2.2]; first | exact (by rw [d52 9 6 (by unfold zIn; omega)]; first | exact (by rw [(w48.1 9 (by omega)).2.2.1]; first | exact hrd | exact Eq.symm hrd) | exact Eq.symm (by rw [(w48.1 9 (by omega)).2.2.1]; first | exact hrd | exact Eq.symm hrd)) | exact Eq.symm (by rw [d52 9 6 (by unfold zIn; omega)]; first | exact (by rw [(w48.1 9 (by omega)).2.2.1]; first | exact hrd | exact Eq.symm hrd) | exact Eq.symm (by rw [(w48.1 9 (by omega)).2.2.1]; first | exact hrd | exact Eq.symm hrd))) | exact Eq.symm (by rw [(f53 9 (by omega)).2.2]; first | exact (by rw [d52 9 6 (by unfold zIn; omega)]; first | exact (by rw [(w48.1 9 (by omega)).2.2.1]; first | exact hrd | exact Eq.symm hrd) | exact Eq.symm (by rw [(w48.1 9 (by omega)).2.2.1]; first | exact hrd | exact Eq.symm hrd)) | exact Eq.symm (by rw [d52 9 6 (by unfold zIn; omega)]; first | exact (by rw [(w48.1 9 (by omega)).2.2.1]; first | exact hrd | exact Eq.symm hrd) | exact Eq.symm (by rw [(w48.1 9 (by omega)).2.2.1]; first | exact hrd | exact Eq.symm hrd)))) | exact Eq.symm (by rw [zU_row _ _ _ (by omega)]; first | exact (by rw [(f53 9 (by omega)).2.2]; first | exact (by rw [d52 9 6 (by unfold zIn; omega)]; first | exact (by rw [(w48.1 9 (by omega)).2.2.1]; first | exact hrd | exact Eq.symm hrd) | exact Eq.symm (by rw [(w48.1 9 (by omega)).2.2.1]; first | exact hrd | exact Eq.symm hrd)) | exact Eq.symm (by rw [d52 9 6 (by unfold zIn; omega)]; first | exact (by rw [(w48.1 9 (by omega)).2.2.1]; first | exact hrd | exact Eq.symm hrd) | exact Eq.symm (by rw [(w48.1 9 (by omega)).2.2.1]; first | exact hrd | exact Eq.symm hrd))) | exact Eq.symm (by rw [(f53 9 (by omega)).2.2]; first | exact (by rw [d52 9 6 (by unfold zIn; omega)]; first | exact (by rw [(w48.1 9 (by omega)).2.2.1]; first | exact hrd | exact Eq.symm hrd) | exact Eq.symm (by rw [(w48.1 9 (by omega)).2.2.1]; first | exact hrd | exact Eq.symm hrd)) | exact Eq.symm (by rw [d52 9 6 (by unfold zIn; omega)]; first | exact (by rw [(w48.1 9 (by omega)).2.2.1]; first | exact hrd | exact Eq.symm hrd) | exact Eq.symm (by rw [(w48.1 9 (by omega)).2.2.1]; first | exact hrd | exact Eq.symm hrd))))) | exact Eq.symm (by rw [zU_row _ _ _ (by omega)]; first | exact (by rw [zU_row _ _ _ (by omega)]; first | exact (by rw [(f53 9 (by omega)).2.2]; first | exact (by rw [d52 9 6 (by unfold zIn; omega)]; first | exact (by rw [(w48.1 9 (by omega)).2.2.1]; first | exact hrd | exact Eq.symm hrd) | exact Eq.symm (by rw [(w48.1 9 (by omega)).2.2.1]; first | exact hrd | exact Eq.symm hrd)) | exact Eq.symm (by rw [d52 9 6 (by unfold zIn; omega)]; first | exact (by rw [(w48.1 9 (by omega)).2.2.1]; first | exact hrd | exact Eq.symm hrd) | exact Eq.symm (by rw [(w48.1 9 (by omega)).2.2.1]; first | exact hrd | exact Eq.symm hrd))) | exact Eq.symm (by rw [(f53 9 (by omega)).2.2]; first | exact (by rw [d52 9 6 (by unfold zIn; omega)]; first | exact (by rw [(w48.1 9 (by omega)).2.2.1]; first | exact hrd | exact Eq.symm hrd) | exact Eq.symm (by rw [(w48.1 9 (by omega)).2.2.1]; first | exact hrd | exact Eq.symm hrd)) | exact Eq.symm (by rw [d52 9 6 (by unfold zIn; omega)]; first | exact (by rw [(w48.1 9 (by omega)).2.2.1]; first | exact hrd | exact Eq.symm hrd) | exact Eq.symm (by rw [(w48.1 9 (by omega)).2.2.1]; first | exact hrd | exact Eq.symm hrd)))) | exact Eq.symm (by rw [zU_row _ _ _ (by omega)]; first | exact (by rw [(f53 9 (by omega)).2.2]; first | exact (by rw [d52 9 6 (by unfold zIn; omega)]; first | exact (by rw [(w48.1 9 (by omega)).2.2.1]; first | exact hrd | exact Eq.symm hrd) | exact Eq.symm (by rw [(w48.1 9 (by omega)).2.2.1]; first | exact hrd | exact Eq.symm hrd)) | exact Eq.symm (by rw [d52 9 6 (by unfold zIn; omega)]; first | exact (by rw [(w48.1 9 (by omega)).2.2.1]; first | exact hrd | exact Eq.symm hrd) | exact Eq.symm (by rw [(w48.1 9 (by omega)).2.2.1]; first | exact hrd | exact Eq.symm hrd))) | exact Eq.symm (by rw [(f53 9 (by omega)).2.2]; first | exact (by rw [d52 9 6 (by unfold zIn; omega)]; first | exact (by rw [(w48.1 9 (by omega)).2.2.1]; first | exact hrd | exact Eq.symm hrd) | exact Eq.symm (by rw [(w48.1 9 (by omega)).2.2.1]; first | exact hrd | exact Eq.symm hrd)) | exact Eq.symm (by rw [d52 9 6 (by unfold zIn; omega)]; first | exact (by rw [(w48.1 9 (by omega)).2.2.1]; first | exact hrd | exact Eq.symm hrd) | exact Eq.symm (by rw [(w48.1 9 (by omega)).2.2.1]; first | exact hrd | exact Eq.symm hrd)))))) | exact Eq.symm (by rw [zU_row _ _ _ (by omega)]; first | exact (by rw [zU_row _ _ _ (by omega)]; first | exact (by rw [zU_row _ _ _ (by omega)]; first | exact (by rw [(f53 9 (by omega)).2.2]; first | exact (by rw [d52 9 6 (by unfold zIn; omega)]; first | exact (by rw [(w48.1 9 (by omega)).2.2.1]; first | exact hrd | exact Eq.symm hrd) | exact Eq.symm (by rw [(w48.1 9 (by omega)).2.2.1]; first | exact hrd | exact Eq.symm hrd)) | exact Eq.symm (by rw [d52 9 6 (by unfold zIn; omega)]; first | exact (by rw [(w48.1 9 (by omega)).2.2.1]; first | exact hrd | exact Eq.symm hrd) | exact Eq.symm (by rw [(w48.1 9 (by omega)).2.2.1]; first | exact hrd | exact Eq.symm hrd))) | exact Eq.symm (by rw [(f53 9 (by omega)).2.2]; first | exact (by rw [d52 9 6 (by unfold zIn; omega)]; first | exact (by rw [(w48.1 9 (by omega)).2.2.1]; first | exact hrd | exact Eq.symm hrd) | exact Eq.symm (by rw [(w48.1 9 (by omega)).2.2.1]; first | exact hrd | exact Eq.symm hrd)) | exact Eq.symm (by rw [d52 9 6 (by unfold zIn; omega)]; first | exact (by rw [(w48.1 9 (by omega)).2.2.1]; first | exact hrd | exact Eq.symm hrd) | exact Eq.symm (by rw [(w48.1 9 (by omega)).2.2.1]; first | exact hrd | exact Eq.symm hrd)))) | exact Eq.symm (by rw [zU_row _ _ _ (by omega)]; first | exact (by rw [(f53 9 (by omega)).2.2]; first | exact (by rw [d52 9 6 (by unfold zIn; omega)]; first | exact (by rw [(w48.1 9 (by omega)).2.2.1]; first | exact hrd | exact Eq.symm hrd) | exact Eq.symm (by rw [(w48.1 9 (by omega)).2.2.1]; first | exact hrd | exact Eq.symm hrd)) | exact Eq.symm (by rw [d52 9 6 (by unfold zIn; omega)]; first | exact (by rw [(w48.1 9 (by omega)).2.2.1]; first | exact hrd | exact Eq.symm hrd) | exact Eq.symm (by rw [(w48.1 9 (by omega)).2.2.1]; first | exact hrd | exact Eq.symm hrd))) | exact Eq.symm (by rw [(f53 9 (by omega)).2.2]; first | exact (by rw [d52 9 6 (by unfold zIn; omega)]; first | exact (by rw [(w48.1 9 (by omega)).2.2.1]; first | exact hrd | exact Eq.symm hrd) | exact Eq.symm (by rw [(w48.1 9 (by omega)).2.2.1]; first | exact hrd | exact Eq.symm hrd)) | exact Eq.symm (by rw [d52 9 6 (by unfold zIn; omega)]; first | exact (by rw [(w48.1 9 (by omega)).2.2.1]; first | exact hrd | exact Eq.symm hrd) | exact Eq.symm (by rw [(w48.1 9 (by omega)).2.2.1]; first | exact hrd | exact Eq.symm hrd))))) | exact Eq.symm (by rw [zU_row _ _ _ (by omega)]; first | exact (by rw [zU_row _ _ _ (by omega)]; first | exact (by rw [(f53 9 (by omega)).2.2]; first | exact (by rw [d52 9 6 (by unfold zIn; omega)]; first | exact (by rw [(w48.1 9 (by omega)).2.2.1]; first | exact hrd | exact Eq.symm hrd) | exact Eq.symm (by rw [(w48.1 9 (by omega)).2.2.1]; first | exact hrd | exact Eq.symm hrd)) | exact Eq.symm (by rw [d52 9 6 (by unfold zIn; omega)]; first | exact (by rw [(w48.1 9 (by omega)).2.2.1]; first | exact hrd | exact Eq.symm hrd) | exact Eq.symm (by rw [(w48.1 9 (by omega)).2.2.1]; first | exact hrd | exact Eq.symm hrd))) | exact Eq.symm (by rw [(f53 9 (by omega)).2.2]; first | exact (by rw [d52 9 6 (by unfold zIn; omega)]; first | exact (by rw [(w48.1 9 (by omega)).2.2.1]; first | exact hrd | exact Eq.symm hrd) | exact Eq.symm (by rw [(w48.1 9 (by omega)).2.2.1]; first | exact hrd | exact Eq.symm hrd)) | exact Eq.symm (by rw [d52 9 6 (by unfold zIn; omega)]; first | exact (by rw [(w48.1 9 (by omega)).2.2.1]; first | exact hrd | exact Eq.symm hrd) | exact Eq.symm (by rw [(w48.1 9 (by omega)).2.2.1]; first | exact hrd | exact Eq.symm hrd)))) | exact Eq.symm (by rw [zU_row _ _ _ (by omega)]; first | exact (by rw [(f53 9 (by omega)).2.2]; first | exact (by rw [d52 9 6 (by unfold zIn; omega)]; first | exact (by rw [(w48.1 9 (by omega)).2.2.1]; first | exact hrd | exact Eq.symm hrd) | exact Eq.symm (by rw [(w48.1 9 (by omega)).2.2.1]; first | exact hrd | exact Eq.symm hrd)) | exact Eq.symm (by rw [d52 9 6 (by unfold zIn; omega)]; first | exact (by rw [(w48.1 9 (by omega)).2.2.1]; first | exact hrd | exact Eq.symm hrd) | exact Eq.symm (by rw [(w48.1 9 (by omega)).2.2.1]; first | exact hrd | exact Eq.symm hrd))) | exact Eq.symm (by rw [(f53 9 (by omega)).2.2]; first | exact (by rw [d52 9 6 (by unfold zIn; omega)]; first | exact (by rw [(w48.1 9 (by omega)).2.2.1]; first | exact hrd | exact Eq.symm hrd) | exact Eq.symm (by rw [(w48.1 9 (by omega)).2.2.1]; first | exact hrd | exact Eq.symm hrd)) | exact Eq.symm (by rw [d52 9 6 (by unfold zIn; omega)]; first | exact (by rw [(w48.1 9 (by omega)).2.2.1]; first | exact hrd | exact Eq.symm hrd) | exact Eq.symm (by rw [(w48.1 9 (by omega)).2.2.1]; first | exact hrd | exact Eq.symm hrd))))))) (by first | exact (by rw [zU_row _ _ _ (by omega)]; first | exact (by rw [zU_row _ _ _ (by omega)]; first | exact (by rw [zU_row _ _ _ (by omega)]; first | exact (by rw [(f53 9 (by omega)).2.2]; first | exact (by rw [d52 9 7 (by unfold zIn; omega)]; first | exact (by rw [(w48.1 9 (by omega)).2.2.1]; first | exact hcf | exact Eq.symm hcf) | exact Eq.symm (by rw [(w48.1 9 (by omega)).2.2.1]; first | exact hcf | exact Eq.symm hcf)) | exact Eq.symm (by rw [d52 9 7 (by unfold zIn; omega)]; first | exact (by rw [(w48.1 9 (by omega)).2.2.1]; first | exact hcf | exact Eq.symm hcf) | exact Eq.symm (by rw [(w48.1 9 (by omega)).2.2.1]; first | exact hcf | exact Eq.symm hcf))) | exact Eq.symm (by rw [(f53 9 (by omega)).2.2]; first | exact (by rw [d52 9 7 (by unfold zIn; omega)]; first | exact (by rw [(w48.1 9 (by omega)).2.2.1]; first | exact hcf | exact Eq.symm hcf) | exact Eq.symm (by rw [(w48.1 9 (by omega)).2.2.1]; first | exact hcf | exact Eq.symm hcf)) | exact Eq.symm (by rw [d52 9 7 (by unfold zIn; omega)]; first | exact (by rw [(w48.1 9 (by omega)).2.2.1]; first | exact hcf | exact Eq.symm hcf) | exact Eq.symm (by rw [(w48.1 9 (by omega)).2.2.1]; first | exact hcf | exact Eq.symm hcf)))) | exact Eq.symm (by rw [zU_row _ _ _ (by omega)]; first | exact (by rw [(f53 9 (by omega)).2.2]; first | exact (by rw [d52 9 7 (by unfold zIn; omega)]; first | exact (by rw [(w48.1 9 (by omega)).2.2.1]; first | exact hcf | exact Eq.symm hcf) | exact Eq.symm (by rw [(w48.1 9 (by omega)).2.2.1]; first | exact hcf | exact Eq.symm hcf)) | exact Eq.symm (by rw [d52 9 7 (by unfold zIn; omega)]; first | exact (by rw [(w48.1 9 (by omega)).2.2.1]; first | exact hcf | exact Eq.symm hcf) | exact Eq.symm (by rw [(w48.1 9 (by omega)).2.2.1]; first | exact hcf | exact Eq.symm hcf))) | exact Eq.symm (by rw [(f53 9 (by omega)).2.2]; first | exact (by rw [d52 9 7 (by unfold zIn; omega)]; first | exact (by rw [(w48.1 9 (by omega)).2.2.1]; first | exact hcf | exact Eq.symm hcf) | exact Eq.symm (by rw [(w48.1 9 (by omega)).2.2.1]; first | exact hcf | exact Eq.symm hcf)) | exact Eq.symm (by rw [d52 9 7 (by unfold zIn; omega)]; first | exact (by rw [(w48.1 9 (by omega)).2.2.1]; first | exact hcf | exact Eq.symm hcf) | exact Eq.symm (by rw [(w48.1 9 (by omega)).2.2.1]; first | exact hcf | exact Eq.symm hcf))))) | exact Eq.symm (by rw [zU_row _ _ _ (by omega)]; first | exact (by rw [zU_row _ _ _ (by omega)]; first | exact (by rw [(f53 9 (by omega)).2.2]; first | exact (by rw [d52 9 7 (by unfold zIn; omega)]; first | exact (by rw [(w48.1 9 (by omega)).2.2.1]; first | exact hcf | exact Eq.symm hcf) | exact Eq.symm (by rw [(w48.1 9 (by omega)).2.2.1]; first | exact hcf | exact Eq.symm hcf)) | exact Eq.symm (by rw [d52 9 7 (by unfold zIn; omega)]; first | exact (by rw [(w48.1 9 (by omega)).2.2.1]; first | exact hcf | exact Eq.symm hcf) | exact Eq.symm (by rw [(w48.1 9 (by omega)).2.2.1]; first | exact hcf | exact Eq.symm hcf))) | exact Eq.symm (by rw [(f53 9 (by omega)).2.2]; first | exact (by rw [d52 9 7 (by unfold zIn; omega)]; first | exact (by rw [(w48.1 9 (by omega)).2.2.1]; first | exact hcf | exact Eq.symm hcf) | exact Eq.symm (by rw [(w48.1 9 (by omega)).2.2.1]; first | exact hcf | exact Eq.symm hcf)) | exact Eq.symm (by rw [d52 9 7 (by unfold zIn; omega)]; first | exact (by rw [(w48.1 9 (by omega)).2.2.1]; first | exact hcf | exact Eq.symm hcf) | exact Eq.symm (by rw [(w48.1 9 (by omega)).2.2.1]; first | exact hcf | exact Eq.symm hcf)))) | exact Eq.symm (by rw [zU_row _ _ _ (by omega)]; first | exact (by rw [(f53 9 (by omega)).2.2]; first | exact (by rw [d52 9 7 (by unfold zIn; omega)]; first | exact (by rw [(w48.1 9 (by omega)).2.2.1]; first | exact hcf | exact Eq.symm hcf) | exact Eq.symm (by rw [(w48.1 9 (by omega)).2.2.1]; first | exact hcf | exact Eq.symm hcf)) | exact Eq.symm (by rw [d52 9 7 (by unfold zIn; omega)]; first | exact (by rw [(w48.1 9 (by omega)).2.2.1]; first | exact hcf | exact Eq.symm hcf) | exact Eq.symm (by rw [(w48.1 9 (by omega)).2.2.1]; first | exact hcf | exact Eq.symm hcf))) | exact Eq.symm (by rw [(f53 9 (by omega)).2.2]; first | exact (by rw [d52 9 7 (by unfold zIn; omega)]; first | exact (by rw [(w48.1 9 (by omega)).2.2.1]; first | exact hcf | exact Eq.symm hcf) | exact Eq.symm (by rw [(w48.1 9 (by omega)).2.2.1]; first | exact hcf | exact Eq.symm hcf)) | exact Eq.symm (by rw [d52 9 7 (by unfold zIn; omega)]; first | exact (by rw [(w48.1 9 (by omega)).2.2.1]; first | exact hcf | exact Eq.symm hcf) | exact Eq.symm (by rw [(w48.1 9 (by omega)).2.2.1]; first | exact hcf | exact Eq.symm hcf)))))) | exact Eq.symm (by rw [zU_row _ _ _ (by omega)]; first | exact (by rw [zU_row _ _ _ (by omega)]; first | exact (by rw [zU_row _ _ _ (by omega)]; first | exact (by rw [(f53 9 (by omega)).2.2]; first | exact (by rw [d52 9 7 (by unfold zIn; omega)]; first | exact (by rw [(w48.1 9 (by omega)).2.2.1]; first | exact hcf | exact Eq.symm hcf) | exact Eq.symm (by rw [(w48.1 9 (by omega)).2.2.1]; first | exact hcf | exact Eq.symm hcf)) | exact Eq.symm (by rw [d52 9 7 (by unfold zIn; omega)]; first | exact (by rw [(w48.1 9 (by omega)).2.2.1]; first | exact hcf | exact Eq.symm hcf) | exact Eq.symm (by rw [(w48.1 9 (by omega)).2.2.1]; first | exact hcf | exact Eq.symm hcf))) | exact Eq.symm (by rw [(f53 9 (by omega)).2.2]; first | exact (by rw [d52 9 7 (by unfold zIn; omega)]; first | exact (by rw [(w48.1 9 (by omega)).2.2.1]; first | exact hcf | exact Eq.symm hcf) | exact Eq.symm (by rw [(w48.1 9 (by omega)).2.2.1]; first | exact hcf | exact Eq.symm hcf)) | exact Eq.symm (by rw [d52 9 7 (by unfold zIn; omega)]; first | exact (by rw [(w48.1 9 (by omega)).2.2.1]; first | exact hcf | exact Eq.symm hcf) | exact Eq.symm (by rw [(w48.1 9 (by omega)).2.2.1]; first | exact hcf | exact Eq.symm hcf)))) | exact Eq.symm (by rw [zU_row _ _ _ (by omega)]; first | exact (by rw [(f53 9 (by omega)).2.2]; first | exact (by rw [d52 9 7 (by unfold zIn; omega)]; first | exact (by rw [(w48.1 9 (by omega)).2.2.1]; first | exact hcf | exact Eq.symm hcf) | exact Eq.symm (by rw [(w48.1 9 (by omega)).2.2.1]; first | exact hcf | exact Eq.symm hcf)) | exact Eq.symm (by rw [d52 9 7 (by unfold zIn; omega)]; first | exact (by rw [(w48.1 9 (by omega)).2.2.1]; first | exact hcf | exact Eq.symm hcf) | exact Eq.symm (by rw [(w48.1 9 (by omega)).2.2.1]; first | exact hcf | exact Eq.symm hcf))) | exact Eq.symm (by rw [(f53 9 (by omega)).2.2]; first | exact (by rw [d52 9 7 (by unfold zIn; omega)]; first | exact (by rw [(w48.1 9 (by omega)).2.2.1]; first | exact hcf | exact Eq.symm hcf) | exact Eq.symm (by rw [(w48.1 9 (by omega)).2.2.1]; first | exact hcf | exact Eq.symm hcf)) | exact Eq.symm (by rw [d52 9 7 (by unfold zIn; omega)]; first | exact (by rw [(w48.1 9 (by omega)).2.2.1]; first | exact hcf | exact Eq.symm hcf) | exact Eq.symm (by rw [(w48.1 9 (by omega)).2.2.1]; first | exact hcf | exact Eq.symm hcf))))) | exact Eq.symm (by rw [zU_row _ _ _ (by omega)]; first | exact (by rw [zU_row _ _ _ (by omega)]; first | exact (by rw [(f53 9 (by omega)).2.2]; first | exact (by rw [d52 9 7 (by unfold zIn; omega)]; first | exact (by rw [(w48.1 9 (by omega)).2.2.1]; first | exact hcf | exact Eq.symm hcf) | exact Eq.symm (by rw [(w48.1 9 (by omega)).2.2.1]; first | exact hcf | exact Eq.symm hcf)) | exact Eq.symm (by rw [d52 9 7 (by unfold zIn; omega)]; first | exact (by rw [(w48.1 9 (by omega)).2.2.1]; first | exact hcf | exact Eq.symm hcf) | exact Eq.symm (by rw [(w48.1 9 (by omega)).2.2.1]; first | exact hcf | exact Eq.symm hcf))) | exact Eq.symm (by rw [(f53 9 (by omega)).2.2]; first | exact (by rw [d52 9 7 (by unfold zIn; omega)]; first | exact (by rw [(w48.1 9 (by omega)).2.2.1]; first | exact hcf | exact Eq.symm hcf) | exact Eq.symm (by rw [(w48.1 9 (by omega)).2.2.1]; first | exact hcf | exact Eq.symm hcf)) | exact Eq.symm (by rw [d52 9 7 (by unfold zIn; omega)]; first | exact (by rw [(w48.1 9 (by omega)).2.2.1]; first | exact hcf | exact Eq.symm hcf) | exact Eq.symm (by rw [(w48.1 9 (by omega)).2.2.1]; first | exact hcf | exact Eq.symm hcf)))) | exact Eq.symm (by rw [zU_row _ _ _ (by omega)]; first | exact (by rw [(f53 9 (by omega)).2.2]; first | exact (by rw [d52 9 7 (by unfold zIn; omega)]; first | exact (by rw [(w48.1 9 (by omega)).2.2.1]; first | exact hcf | exact Eq.symm hcf) | exact Eq.symm (by rw [(w48.1 9 (by omega)).2.2.1]; first | exact hcf | exact Eq.symm hcf)) | exact Eq.symm (by rw [d52 9 7 (by unfold zIn; omega)]; first | exact (by rw [(w48.1 9 (by omega)).2.2.1]; first | exact hcf | exact Eq.symm hcf) | exact Eq.symm (by rw [(w48.1 9 (by omega)).2.2.1]; first | exact hcf | exact Eq.symm hcf))) | exact Eq.symm (by rw [(f53 9 (by omega)).2.2]; first | exact (by rw [d52 9 7 (by unfold zIn; omega)]; first | exact (by rw [(w48.1 9 (by omega)).2.2.1]; first | exact hcf | exact Eq.symm hcf) | exact Eq.symm (by rw [(w48.1 9 (by omega)).2.2.1]; first | exact hcf | exact Eq.symm hcf)) | exact Eq.symm (by rw [d52 9 7 (by unfold zIn; omega)]; first | exact (by rw [(w48.1 9 (by omega)).2.2.1]; first | exact hcf | exact Eq.symm hcf) | exact Eq.symm (by rw [(w48.1 9 (by omega)).2.2.1]; first | exact hcf | exact Eq.symm hcf))))))) ((r57 _ (by omega)).trans ((f53 _ (by omega)).1.trans ((a52 _ (by omega)).trans ((w48.1 _ (by omega)).1.trans tfo)))) (by omega) fo9 (fun w61 => ?_)
        show zB _ _ _ _ _ _ [_, _] _ _
        refine z_putI_any (pc2 := 235) rfl rfl rfl rfl rfl rfl t57 (fun _ _ => True.intro) (fun u62 u62r => ?_)
        refine z_aload (pc2 := 237) rfl rfl rfl ?_
        refine z_iload (pc2 := 239) rfl rfl rfl ?_
        refine z_putZ (pc2 := 242) rfl rfl rfl rfl rfl rfl t57 (by omega) True.intro ?_
        refine z_aload (pc2 := 244) rfl rfl rfl ?_
        refine z_aret rfl rfl ?_
        exact hK _ _ _ _ _ _ (zTn_r (zTn_t (m := n52) (zTn_t (m := (n + 1)) (zTn_n zTn_rf w48 (by omega)) a52 (by omega)) (fun b hb => (f53 b hb).1) (by omega)) r57 (by omega)) (zTm_tr (zTm_tr (zTm_tr (zTm_tr (zTm_rf _) (zTk_m w48.2.2.2.2)) b52) m53) m57) (zQs_u (zQs_u (zQs_u (zQs_u (zQs_u (zQs_u (zQs_u (zQs_u (zQs_u (zQs_u (zQs_u (zQs_u (zQs_u (zQs_t (zQs_t (zQs_n (zQs_t (zQs_u (zQs_u (zQs_u (fun a k ha => hI2 a k (by unfold zIl at ha; omega)) (by unfold zIl; omega)) (by unfold zIl; omega)) (by unfold zIl; omega)) (fun a k ha => j40 a k (by unfold zIl at ha; omega))) w48 (fun _ => by unfold zIl; omega)) (fun a k ha => c52 a k (by unfold zIl at ha; unfold zIm; omega))) (fun a k ha => congrFun (f53 a (by unfold zIl at ha; omega)).2.1 k)) (by unfold zIl; omega)) (by unfold zIl; omega)) (by unfold zIl; omega)) (by unfold zIl; omega)) (by unfold zIl; omega)) (by unfold zIl; omega)) (by unfold zIl; omega)) (by unfold zIl; omega)) (by unfold zIl; omega)) (by unfold zIl; omega)) (by unfold zIl; omega)) (by unfold zIl; omega)) (by unfold zIl; omega)) (zPs_v (zPs_v (zPs_v (zPs_t (zPs_t (zPs_n zPs_rf w48 (fun _ => by unfold zIn; omega)) (fun a k ha => d52 a k (by unfold zIn at ha ⊢; omega))) (fun a k ha => congrFun (f53 a (by unfold zIn at ha; omega)).2.2 k)) (by unfold zIn; omega)) (by unfold zIn; omega)) (by unfold zIn; omega)) t57 (by omega)
    ·
      refine z_aload_n (pc2 := 84) rfl rfl rfl ?_
      refine z_iload (pc2 := 86) rfl rfl rfl ?_
      refine z_callV (y2 := 8) (as := [_]) (rest := []) (pc2 := 89) rfl rfl rfl rfl t9 rfl ?_
      refine c_add2 (q := k - a) hn hC (by omega) (by omega) (by omega) hrd hcf tfo fol fo9 (zTw_q (htk k.toNat (by omega)) (hI2 6 _ (by omega)) (hI2 7 _ (by omega)) (hI2 8 _ (by omega))) hms (fun I63 m63 s63 x63 y63 => ?_)
      show zB _ _ _ _ _ _ [] _ _
      refine z_iinc (lv2 := [(8, _), (0, _), (1, _), (2, _), (3, _), (4, _), (5, _), (6, _), (7, _)]) (pc2 := 92) rfl rfl rfl rfl rfl ?_
      refine z_goto (pc2 := 76) rfl rfl ?_
      refine z_lv (lv2 := [(0, _), (1, _), (2, _), (3, _), (4, _), (5, _), (6, _), (7, _), (8, _)]) ⟨rfl, rfl, rfl, rfl, rfl, rfl, rfl, rfl, rfl, trivial⟩ ?_
      exact ih _ _ (by omega) (zCm_tr hI2 m63) (by omega) (by have h9 := s63; rw [show k - a + 1 = k + 1 - a by omega] at h9; exact h9) (zCt_ad (by omega) hs6 (hI2 6 _ (by omega)) x63 y63) (by omega)
set_option maxHeartbeats 8000000 in
theorem c_Composer_makeLine {L : Nat} {xs : Nat → Int32} {n sl : Nat} {T : Nat → zT} {I : Nat → Nat → Int} {P : Nat → Nat → Option Nat} {G : Nat → Nat → Int} {K : List zV → zH → Prop} {p t a e c un : Int} {fo : Nat} (hn : 90 ≤ n) (hC : ∀ a, 1 ≤ a → a ≤ 55 → T a = zFixC a) (ha : 0 ≤ a ∧ a ≤ 40) (he : 0 ≤ e ∧ e ≤ 40) (hc : 0 ≤ c ∧ c ≤ 40) (hun : 0 ≤ un ∧ un ≤ 24) (hrd : P 9 6 = some 5) (hcf : P 9 7 = some fo) (tfo : T fo = (1, 3, [un])) (fol : fo ≤ n) (fo9 : 91 ≤ fo) (hrf : P 5 4 = some fo) (hc5 : I 5 3 = c) (htk : zTkn un c I) (hae : (a < e ∨ c = 0) ∧ e ≤ c ∧ a ≤ c) (hbk : e = c ∨ I 6 (e - 1).toNat = 2 ∨ I 6 (e - 1).toNat = 6) (hK : ∀ n2 s2 T2 I2 P2 G2, zTn n T T2 → zTm T T2 → zQs (zIl n) I I2 → zPs2 (zIn n) P P2 → T2 (n + 1) = (1, 4, [1]) → (n + 1 ≤ n2 ∧ n2 ≤ n + 4 + 3 * (e - a).toNat ∧ s2 ≤ sl + 100 + 20 * (e - a).toNat) → K [.inr (.inl (some (n + 1)))] (n2, s2, T2, I2, P2, G2)) : zX zMd L xs 15 [.inr (.inl (some 9)), .inl p, .inl t, .inl a, .inl e] (n, sl, T, I, P, G) K := by
  have t5 : T 5 = (1, 7, [1]) := hC 5 (by decide) (by decide)
  have t6 : T 6 = (2, 0, [40, 20]) := hC 6 (by decide) (by decide)
  have t9 : T 9 = (1, 0, [1]) := hC 9 (by decide) (by decide)
  refine z_inl ?_
  refine z_lv (lv2 := [(0, _), (1, _), (2, _), (3, _), (4, _)]) ⟨rfl, rfl, rfl, rfl, rfl, trivial⟩ ?_
  refine z_iload (pc2 := 2) rfl rfl rfl ?_
  refine z_aload_n (pc2 := 3) rfl rfl rfl ?_
  refine z_getP (pc2 := 6) rfl rfl rfl rfl t9 ?_
  intro p1 p1e p1k
  clear p1k; replace p1e : p1 = some 5 := by rw [p1e]; first | exact hrd | exact Eq.symm hrd | (simp [zU]; first | done | exact hrd | exact Eq.symm hrd | omega) | (refine Eq.trans (congrArg _ ?_) (Eq.symm hrd); omega)
  subst p1e
  refine z_getI (pc2 := 9) 0 rfl rfl rfl rfl rfl t5 ?_
  intro v2 e2 r2 k2
  replace k2 : (0 : Int) ≤ v2 ∧ v2 ≤ 40 := k2
  replace e2 : c = v2 := by rw [e2]; first | exact hc5 | exact Eq.symm hc5 | (simp [zU]; first | done | exact hc5 | exact Eq.symm hc5 | omega) | (refine Eq.trans (congrArg _ ?_) (Eq.symm hc5); omega)
  subst e2
  refine z_icmp_lt (t := 16) (pc2 := 12) rfl rfl rfl (by omega) (by omega) (fun c3 => ?_) (fun c3 => ?_)
  ·
    refine z_iconst (pc2 := 17) rfl rfl ?_
    refine z_istore (lv2 := [(5, _), (0, _), (1, _), (2, _), (3, _), (4, _)]) (pc2 := 19) rfl rfl rfl rfl ?_
    refine z_iload (pc2 := 21) rfl rfl rfl ?_
    refine z_if_ne (t := 45) (pc2 := 24) rfl rfl rfl (by omega) (fun c4 => by exfalso; omega) (fun c4 => ?_)
    refine z_aload_n (pc2 := 25) rfl rfl rfl ?_
    refine z_getP (pc2 := 28) rfl rfl rfl rfl t9 ?_
    intro p5 p5e p5k
    clear p5k; replace p5e : p5 = some 5 := by rw [p5e]; first | exact hrd | exact Eq.symm hrd | (simp [zU]; first | done | exact hrd | exact Eq.symm hrd | omega) | (refine Eq.trans (congrArg _ ?_) (Eq.symm hrd); omega)
    subst p5e
    refine z_getP (pc2 := 31) rfl rfl rfl rfl t5 ?_
    intro p6 p6e p6k
    replace p6k : p6 = some 6 := p6k; clear p6e; subst p6k
    refine z_iload (pc2 := 33) rfl rfl rfl ?_
    refine z_iconst (pc2 := 34) rfl rfl ?_
    refine z_isub (pc2 := 35) rfl rfl ?_
    refine z_iald (pc2 := 36) rfl rfl t6 (by omega) (by omega) (by omega) ?_
    intro v7 e7 r7 k7
    replace k7 : (0 : Int) ≤ v7 ∧ v7 ≤ 7 := k7
    refine z_bipush (pc2 := 38) rfl rfl (by decide) ?_
    refine z_icmp_ne (t := 45) (pc2 := 41) rfl rfl rfl (by omega) (by omega) (fun c8 => ?_) (fun c8 => ?_)
    ·
      refine z_iconst (pc2 := 46) rfl rfl ?_
      refine z_istore (lv2 := [(6, _), (5, _), (0, _), (1, _), (2, _), (3, _), (4, _)]) (pc2 := 48) rfl rfl rfl rfl ?_
      refine z_iload (pc2 := 50) rfl rfl rfl ?_
      refine z_if_ne (t := 58) (pc2 := 53) rfl rfl rfl (by omega) (fun c9 => by exfalso; omega) (fun c9 => ?_)
      refine z_iload (pc2 := 55) rfl rfl rfl ?_
      refine z_if_eq (t := 63) (pc2 := 58) rfl rfl rfl (by omega) (fun c10 => ?_) (fun c10 => by exfalso; omega)
      refine z_iload (pc2 := 65) rfl rfl rfl ?_
      refine z_iconst (pc2 := 66) rfl rfl ?_
      refine z_isub (pc2 := 67) rfl rfl ?_
      refine z_istore (lv2 := [(7, _), (6, _), (5, _), (0, _), (1, _), (2, _), (3, _), (4, _)]) (pc2 := 69) rfl rfl rfl rfl ?_
      refine z_aload_n (pc2 := 70) rfl rfl rfl ?_
      refine z_callV (y2 := 7) (as := []) (rest := []) (pc2 := 73) rfl rfl rfl rfl t9 rfl ?_
      refine z_inl ?_
      refine z_lv (lv2 := [(0, _)]) ⟨rfl, trivial⟩ ?_
      refine z_aload_n (pc2 := 1) rfl rfl rfl ?_
      refine z_iconst (pc2 := 2) rfl rfl ?_
      refine z_putI (pc2 := 5) rfl rfl rfl rfl rfl rfl t9 (by omega) True.intro ?_
      refine z_aload_n (pc2 := 6) rfl rfl rfl ?_
      refine z_iconst (pc2 := 7) rfl rfl ?_
      refine z_putI (pc2 := 10) rfl rfl rfl rfl rfl rfl t9 (by omega) (by show (0 : Int) ≤ _ ∧ _ ≤ 100; omega) ?_
      refine z_aload_n (pc2 := 11) rfl rfl rfl ?_
      refine z_iconst (pc2 := 12) rfl rfl ?_
      refine z_putI (pc2 := 15) rfl rfl rfl rfl rfl rfl t9 (by omega) (by show (0 : Int) ≤ _ ∧ _ ≤ 100; omega) ?_
      refine z_aload_n (pc2 := 16) rfl rfl rfl ?_
      refine z_iconst (pc2 := 17) rfl rfl ?_
      refine z_putI (pc2 := 20) rfl rfl rfl rfl rfl rfl t9 (by omega) (by show (0 : Int) ≤ _ ∧ _ ≤ 100; omega) ?_
      refine z_aload_n (pc2 := 21) rfl rfl rfl ?_
      refine z_iconst (pc2 := 22) rfl rfl ?_
      refine z_putI (pc2 := 25) rfl rfl rfl rfl rfl rfl t9 (by omega) (by show (-1 : Int) ≤ _ ∧ _ ≤ 23; omega) ?_
      refine z_ret rfl rfl ?_
      show zB _ _ _ _ _ _ [] _ _
      refine z_iload_n (pc2 := 74) rfl rfl rfl ?_
      refine z_istore (lv2 := [(8, _), (7, _), (6, _), (5, _), (0, _), (1, _), (2, _), (3, _), (4, _)]) (pc2 := 76) rfl rfl rfl rfl ?_
      refine z_lv (lv2 := [(0, _), (1, _), (2, _), (3, _), (4, _), (5, _), (6, _), (7, _), (8, _)]) ⟨rfl, rfl, rfl, rfl, rfl, rfl, rfl, rfl, rfl, trivial⟩ ?_
      exact cl_Composer_makeLine (c := c) (un := un) hn hC (by omega) (by omega) (by omega) (by omega) (by omega) (by omega) (by omega) hrd hcf tfo fol fo9 hrf hc5 htk (by omega) (by omega) (fun hz => by first | (exfalso; omega) | (have h9 := htk (e - 1).toNat (by omega); unfold zTw at h9; omega)) hK _ _ _ (by omega) (by repeat (first | exact zCm_rf | assumption | refine zCm_u ?_ (by decide))) (by omega) (zMs_in (a := 0) (b := 0) (s := 0) (e := -1) (by simp [zU]) (by simp [zU]) (by simp [zU]) (by simp [zU]) (by omega) (by omega) (by omega) (by omega)) (by rw [show (a - a).toNat = 0 by omega]; simp [zU]; rfl) (Nat.lt_succ_self _)
    ·
      refine z_iconst (pc2 := 42) rfl rfl ?_
      refine z_goto (pc2 := 46) rfl rfl ?_
      refine z_istore (lv2 := [(6, _), (5, _), (0, _), (1, _), (2, _), (3, _), (4, _)]) (pc2 := 48) rfl rfl rfl rfl ?_
      refine z_iload (pc2 := 50) rfl rfl rfl ?_
      refine z_if_ne (t := 58) (pc2 := 53) rfl rfl rfl (by omega) (fun c11 => by exfalso; omega) (fun c11 => ?_)
      refine z_iload (pc2 := 55) rfl rfl rfl ?_
      refine z_if_eq (t := 63) (pc2 := 58) rfl rfl rfl (by omega) (fun c12 => by exfalso; omega) (fun c12 => ?_)
      refine z_iload (pc2 := 60) rfl rfl rfl ?_
      refine z_goto (pc2 := 67) rfl rfl ?_
      refine z_istore (lv2 := [(7, _), (6, _), (5, _), (0, _), (1, _), (2, _), (3, _), (4, _)]) (pc2 := 69) rfl rfl rfl rfl ?_
      refine z_aload_n (pc2 := 70) rfl rfl rfl ?_
      refine z_callV (y2 := 7) (as := []) (rest := []) (pc2 := 73) rfl rfl rfl rfl t9 rfl ?_
      refine z_inl ?_
      refine z_lv (lv2 := [(0, _)]) ⟨rfl, trivial⟩ ?_
      refine z_aload_n (pc2 := 1) rfl rfl rfl ?_
      refine z_iconst (pc2 := 2) rfl rfl ?_
      refine z_putI (pc2 := 5) rfl rfl rfl rfl rfl rfl t9 (by omega) True.intro ?_
      refine z_aload_n (pc2 := 6) rfl rfl rfl ?_
      refine z_iconst (pc2 := 7) rfl rfl ?_
      refine z_putI (pc2 := 10) rfl rfl rfl rfl rfl rfl t9 (by omega) (by show (0 : Int) ≤ _ ∧ _ ≤ 100; omega) ?_
      refine z_aload_n (pc2 := 11) rfl rfl rfl ?_
      refine z_iconst (pc2 := 12) rfl rfl ?_
      refine z_putI (pc2 := 15) rfl rfl rfl rfl rfl rfl t9 (by omega) (by show (0 : Int) ≤ _ ∧ _ ≤ 100; omega) ?_
      refine z_aload_n (pc2 := 16) rfl rfl rfl ?_
      refine z_iconst (pc2 := 17) rfl rfl ?_
      refine z_putI (pc2 := 20) rfl rfl rfl rfl rfl rfl t9 (by omega) (by show (0 : Int) ≤ _ ∧ _ ≤ 100; omega) ?_
      refine z_aload_n (pc2 := 21) rfl rfl rfl ?_
      refine z_iconst (pc2 := 22) rfl rfl ?_
      refine z_putI (pc2 := 25) rfl rfl rfl rfl rfl rfl t9 (by omega) (by show (-1 : Int) ≤ _ ∧ _ ≤ 23; omega) ?_
      refine z_ret rfl rfl ?_
      show zB _ _ _ _ _ _ [] _ _
      refine z_iload_n (pc2 := 74) rfl rfl rfl ?_
      refine z_istore (lv2 := [(8, _), (7, _), (6, _), (5, _), (0, _), (1, _), (2, _), (3, _), (4, _)]) (pc2 := 76) rfl rfl rfl rfl ?_
      refine z_lv (lv2 := [(0, _), (1, _), (2, _), (3, _), (4, _), (5, _), (6, _), (7, _), (8, _)]) ⟨rfl, rfl, rfl, rfl, rfl, rfl, rfl, rfl, rfl, trivial⟩ ?_
      exact cl_Composer_makeLine (c := c) (un := un) hn hC (by omega) (by omega) (by omega) (by omega) (by omega) (by omega) (by omega) hrd hcf tfo fol fo9 hrf hc5 htk (by omega) (by omega) (fun hz => by first | (exfalso; omega) | (have h9 := htk (e - 1).toNat (by omega); unfold zTw at h9; omega)) hK _ _ _ (by omega) (by repeat (first | exact zCm_rf | assumption | refine zCm_u ?_ (by decide))) (by omega) (zMs_in (a := 0) (b := 0) (s := 0) (e := -1) (by simp [zU]) (by simp [zU]) (by simp [zU]) (by simp [zU]) (by omega) (by omega) (by omega) (by omega)) (by rw [show (a - a).toNat = 0 by omega]; simp [zU]; rfl) (Nat.lt_succ_self _)
  ·
    refine z_iconst (pc2 := 13) rfl rfl ?_
    refine z_goto (pc2 := 17) rfl rfl ?_
    refine z_istore (lv2 := [(5, _), (0, _), (1, _), (2, _), (3, _), (4, _)]) (pc2 := 19) rfl rfl rfl rfl ?_
    refine z_iload (pc2 := 21) rfl rfl rfl ?_
    refine z_if_ne (t := 45) (pc2 := 24) rfl rfl rfl (by omega) (fun c13 => ?_) (fun c13 => by exfalso; omega)
    refine z_iconst (pc2 := 46) rfl rfl ?_
    refine z_istore (lv2 := [(6, _), (5, _), (0, _), (1, _), (2, _), (3, _), (4, _)]) (pc2 := 48) rfl rfl rfl rfl ?_
    refine z_iload (pc2 := 50) rfl rfl rfl ?_
    refine z_if_ne (t := 58) (pc2 := 53) rfl rfl rfl (by omega) (fun c14 => ?_) (fun c14 => by exfalso; omega)
    refine z_iload (pc2 := 60) rfl rfl rfl ?_
    refine z_goto (pc2 := 67) rfl rfl ?_
    refine z_istore (lv2 := [(7, _), (6, _), (5, _), (0, _), (1, _), (2, _), (3, _), (4, _)]) (pc2 := 69) rfl rfl rfl rfl ?_
    refine z_aload_n (pc2 := 70) rfl rfl rfl ?_
    refine z_callV (y2 := 7) (as := []) (rest := []) (pc2 := 73) rfl rfl rfl rfl t9 rfl ?_
    refine z_inl ?_
    refine z_lv (lv2 := [(0, _)]) ⟨rfl, trivial⟩ ?_
    refine z_aload_n (pc2 := 1) rfl rfl rfl ?_
    refine z_iconst (pc2 := 2) rfl rfl ?_
    refine z_putI (pc2 := 5) rfl rfl rfl rfl rfl rfl t9 (by omega) True.intro ?_
    refine z_aload_n (pc2 := 6) rfl rfl rfl ?_
    refine z_iconst (pc2 := 7) rfl rfl ?_
    refine z_putI (pc2 := 10) rfl rfl rfl rfl rfl rfl t9 (by omega) (by show (0 : Int) ≤ _ ∧ _ ≤ 100; omega) ?_
    refine z_aload_n (pc2 := 11) rfl rfl rfl ?_
    refine z_iconst (pc2 := 12) rfl rfl ?_
    refine z_putI (pc2 := 15) rfl rfl rfl rfl rfl rfl t9 (by omega) (by show (0 : Int) ≤ _ ∧ _ ≤ 100; omega) ?_
    refine z_aload_n (pc2 := 16) rfl rfl rfl ?_
    refine z_iconst (pc2 := 17) rfl rfl ?_
    refine z_putI (pc2 := 20) rfl rfl rfl rfl rfl rfl t9 (by omega) (by show (0 : Int) ≤ _ ∧ _ ≤ 100; omega) ?_
    refine z_aload_n (pc2 := 21) rfl rfl rfl ?_
    refine z_iconst (pc2 := 22) rfl rfl ?_
    refine z_putI (pc2 := 25) rfl rfl rfl rfl rfl rfl t9 (by omega) (by show (-1 : Int) ≤ _ ∧ _ ≤ 23; omega) ?_
    refine z_ret rfl rfl ?_
    show zB _ _ _ _ _ _ [] _ _
    refine z_iload_n (pc2 := 74) rfl rfl rfl ?_
    refine z_istore (lv2 := [(8, _), (7, _), (6, _), (5, _), (0, _), (1, _), (2, _), (3, _), (4, _)]) (pc2 := 76) rfl rfl rfl rfl ?_
    refine z_lv (lv2 := [(0, _), (1, _), (2, _), (3, _), (4, _), (5, _), (6, _), (7, _), (8, _)]) ⟨rfl, rfl, rfl, rfl, rfl, rfl, rfl, rfl, rfl, trivial⟩ ?_
    exact cl_Composer_makeLine (c := c) (un := un) hn hC (by omega) (by omega) (by omega) (by omega) (by omega) (by omega) (by omega) hrd hcf tfo fol fo9 hrf hc5 htk (by omega) (by omega) (fun hz => by first | (exfalso; omega) | (have h9 := htk (e - 1).toNat (by omega); unfold zTw at h9; omega)) hK _ _ _ (by omega) (by repeat (first | exact zCm_rf | assumption | refine zCm_u ?_ (by decide))) (by omega) (zMs_in (a := 0) (b := 0) (s := 0) (e := -1) (by simp [zU]) (by simp [zU]) (by simp [zU]) (by simp [zU]) (by omega) (by omega) (by omega) (by omega)) (by rw [show (a - a).toNat = 0 by omega]; simp [zU]; rfl) (Nat.lt_succ_self _)
