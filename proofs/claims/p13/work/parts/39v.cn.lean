/-! the class: where lines end -/
set_option maxHeartbeats 8000000 in
theorem cl_Composer_chooseEndFrom {L : Nat} {xs : Nat → Int32} {n sl : Nat} {T : Nat → zT} {I : Nat → Nat → Int} {P : Nat → Nat → Option Nat} {G : Nat → Nat → Int} {K : List zV → zH → Prop} {f c un : Int} {fo : Nat} (hn : 90 ≤ n) (hC : ∀ a, 1 ≤ a → a ≤ 55 → T a = zFixC a) (hf : 0 ≤ f ∧ f ≤ 39) (hc : 0 ≤ c ∧ c ≤ 40) (hun : 0 ≤ un ∧ un ≤ 24) (hrd : P 9 6 = some 5) (hcf : P 9 7 = some fo) (tfo : T fo = (1, 3, [un])) (fol : fo ≤ n) (fo9 : 91 ≤ fo) (hc5 : I 5 3 = c) (htk : zTkn un c I) (hfc : f < c ∨ c = 0) (hK : ∀ I2, zCe f I I2 → zNx c f I2 → K [] (n, sl, T, I2, P, G)) (m : Nat) : ∀ (I2 : Nat → Nat → Int), ∀ (k : Int), 0 ≤ k ∧ k ≤ 40 → zCe f I I2 → f ≤ k ∧ (k ≤ c ∨ c = 0) → zNx c f I2 → zMs un (k - f) I2 → (40 - k).toNat < m → zB zMd L xs 4 27 [(0, .inr (.inl (some 9))), (1, .inl f), (2, .inl k)] [] (n, sl, T, I2, P, G) K := by
  have t5 : T 5 = (1, 7, [1]) := hC 5 (by decide) (by decide)
  have t6 : T 6 = (2, 0, [40, 20]) := hC 6 (by decide) (by decide)
  have t9 : T 9 = (1, 0, [1]) := hC 9 (by decide) (by decide)
  have t11 : T 11 = (2, 0, [41, 0]) := hC 11 (by decide) (by decide)
  have t12 : T 12 = (2, 0, [41, 22]) := hC 12 (by decide) (by decide)
  induction m with
  | zero => intro I2 k hk hI2 hb3 hnx hms hm; omega
  | succ m ih =>
    intro I2 k hk hI2 hb3 hnx hms hm
    have hm9 := hms
    unfold zMs at hm9
    refine z_iload_n (pc2 := 28) rfl rfl rfl ?_
    refine z_aload_n (pc2 := 29) rfl rfl rfl ?_
    refine z_getP (pc2 := 32) rfl rfl rfl rfl t9 ?_
    intro p1 p1e p1k
    clear p1k; replace p1e : p1 = some 5 := by rw [p1e]; first | exact hrd | exact Eq.symm hrd | (simp [zU]; first | done | exact hrd | exact Eq.symm hrd | omega) | (refine Eq.trans (congrArg _ ?_) (Eq.symm hrd); omega)
    subst p1e
    refine z_getI (pc2 := 35) 0 rfl rfl rfl rfl rfl t5 ?_
    intro v2 e2 r2 k2
    replace k2 : (0 : Int) ≤ v2 ∧ v2 ≤ 40 := k2
    replace e2 : c = v2 := by rw [e2]; first | exact ((hI2 5 3 (by omega) (by omega) (by omega)).trans hc5) | exact Eq.symm ((hI2 5 3 (by omega) (by omega) (by omega)).trans hc5) | (simp [zU]; first | done | exact ((hI2 5 3 (by omega) (by omega) (by omega)).trans hc5) | exact Eq.symm ((hI2 5 3 (by omega) (by omega) (by omega)).trans hc5) | omega) | (refine Eq.trans (congrArg _ ?_) (Eq.symm ((hI2 5 3 (by omega) (by omega) (by omega)).trans hc5)); omega)
    subst e2
    refine z_icmp_ge (t := 129) (pc2 := 38) rfl rfl rfl (by omega) (by omega) (fun c3 => ?_) (fun c3 => ?_)
    ·
      refine z_aload_n (pc2 := 130) rfl rfl rfl ?_
      refine z_iload_n (pc2 := 131) rfl rfl rfl ?_
      refine z_aload_n (pc2 := 132) rfl rfl rfl ?_
      refine z_getP (pc2 := 135) rfl rfl rfl rfl t9 ?_
      intro p4 p4e p4k
      clear p4k; replace p4e : p4 = some 5 := by rw [p4e]; first | exact hrd | exact Eq.symm hrd | (simp [zU]; first | done | exact hrd | exact Eq.symm hrd | omega) | (refine Eq.trans (congrArg _ ?_) (Eq.symm hrd); omega)
      subst p4e
      refine z_getI (pc2 := 138) 0 rfl rfl rfl rfl rfl t5 ?_
      intro v5 e5 r5 k5
      replace k5 : (0 : Int) ≤ v5 ∧ v5 ≤ 40 := k5
      replace e5 : c = v5 := by rw [e5]; first | exact ((hI2 5 3 (by omega) (by omega) (by omega)).trans hc5) | exact Eq.symm ((hI2 5 3 (by omega) (by omega) (by omega)).trans hc5) | (simp [zU]; first | done | exact ((hI2 5 3 (by omega) (by omega) (by omega)).trans hc5) | exact Eq.symm ((hI2 5 3 (by omega) (by omega) (by omega)).trans hc5) | omega) | (refine Eq.trans (congrArg _ ?_) (Eq.symm ((hI2 5 3 (by omega) (by omega) (by omega)).trans hc5)); omega)
      subst e5
      refine z_aload_n (pc2 := 139) rfl rfl rfl ?_
      refine z_aload_n (pc2 := 140) rfl rfl rfl ?_
      refine z_getI (pc2 := 143) 0 rfl rfl rfl rfl rfl t9 ?_
      intro v6 e6 r6 k6
      clear k6
      clear e6
      refine z_aload_n (pc2 := 144) rfl rfl rfl ?_
      refine z_getI (pc2 := 147) 0 rfl rfl rfl rfl rfl t9 ?_
      intro v7 e7 r7 k7
      clear k7
      clear e7
      refine z_isub (pc2 := 148) rfl rfl ?_
      refine z_iconst (pc2 := 149) rfl rfl ?_
      refine z_iconst (pc2 := 150) rfl rfl ?_
      refine z_callV (y2 := 14) (as := [_, _, _]) (rest := [_, _, _]) (pc2 := 153) rfl rfl rfl rfl t9 rfl ?_
      refine c_Composer_badnessOf hn hC (by omega) (by omega) (by omega) hrd hcf tfo fol fo9 (fun w8 => ?_)
      show zB _ _ _ _ _ _ [_, _, _, _] _ _
      refine z_callV (y2 := 5) (as := [_, _, _]) (rest := []) (pc2 := 156) rfl rfl rfl rfl t9 rfl ?_
      refine z_inl ?_
      refine z_lv (lv2 := [(0, _), (1, _), (2, _), (3, _)]) ⟨rfl, rfl, rfl, rfl, trivial⟩ ?_
      refine z_iload_n (pc2 := 1) rfl rfl rfl ?_
      refine z_aload_n (pc2 := 2) rfl rfl rfl ?_
      refine z_getP (pc2 := 5) rfl rfl rfl rfl t9 ?_
      intro p9 p9e p9k
      replace p9k : p9 = some 11 := p9k; clear p9e; subst p9k
      refine z_iload_n (pc2 := 6) rfl rfl rfl ?_
      refine z_iald (pc2 := 7) rfl rfl t11 (by omega) (by omega) (by omega) ?_
      intro v10 e10 r10 k10
      clear k10
      refine z_icmp_any (t := 24) (pc2 := 10) rfl rfl rfl ?_ ?_
      ·
        refine z_ret rfl rfl ?_
        show zB _ _ _ _ _ _ [] _ _
        refine z_ret rfl rfl ?_
        exact hK _ hI2 hnx
      ·
        refine z_aload_n (pc2 := 11) rfl rfl rfl ?_
        refine z_getP (pc2 := 14) rfl rfl rfl rfl t9 ?_
        intro p11 p11e p11k
        replace p11k : p11 = some 11 := p11k; clear p11e; subst p11k
        refine z_iload_n (pc2 := 15) rfl rfl rfl ?_
        refine z_iload_n (pc2 := 16) rfl rfl rfl ?_
        refine z_iast_any (pc2 := 17) rfl rfl t11 (by omega) (by omega) (by omega) (fun _ _ => True.intro) (fun u12 u12r => ?_)
        refine z_aload_n (pc2 := 18) rfl rfl rfl ?_
        refine z_getP (pc2 := 21) rfl rfl rfl rfl t9 ?_
        intro p13 p13e p13k
        replace p13k : p13 = some 12 := p13k; clear p13e; subst p13k
        refine z_iload_n (pc2 := 22) rfl rfl rfl ?_
        refine z_iload_n (pc2 := 23) rfl rfl rfl ?_
        refine z_iast (pc2 := 24) rfl rfl t12 (by omega) (by omega) (by omega) (by omega) (by show (0 : Int) ≤ _ ∧ _ ≤ 40; omega) ?_
        refine z_ret rfl rfl ?_
        show zB _ _ _ _ _ _ [] _ _
        refine z_ret rfl rfl ?_
        exact hK _ (by repeat (first | exact zCe_rf | assumption | refine zCe_u ?_ (by omega))) (zNx_end (by omega))
    ·
      refine z_aload_n (pc2 := 39) rfl rfl rfl ?_
      refine z_getP (pc2 := 42) rfl rfl rfl rfl t9 ?_
      intro p14 p14e p14k
      clear p14k; replace p14e : p14 = some 5 := by rw [p14e]; first | exact hrd | exact Eq.symm hrd | (simp [zU]; first | done | exact hrd | exact Eq.symm hrd | omega) | (refine Eq.trans (congrArg _ ?_) (Eq.symm hrd); omega)
      subst p14e
      refine z_iload_n (pc2 := 43) rfl rfl rfl ?_
      refine z_callV (y2 := 73) (as := [_]) (rest := []) (pc2 := 46) rfl rfl rfl rfl t5 rfl ?_
      refine c_Reading_mayBreakBehind (c := c) hn hC (by omega) (by omega) ((hI2 5 3 (by omega) (by omega) (by omega)).trans hc5) (fun w15 w15r w15a w15b => ?_)
      show zB _ _ _ _ _ _ [_] _ _
      refine z_if_eq (t := 118) (pc2 := 49) rfl rfl rfl (by omega) (fun c16 => ?_) (fun c16 => ?_)
      ·
        refine z_aload_n (pc2 := 119) rfl rfl rfl ?_
        refine z_iload_n (pc2 := 120) rfl rfl rfl ?_
        refine z_callV (y2 := 8) (as := [_]) (rest := []) (pc2 := 123) rfl rfl rfl rfl t9 rfl ?_
        refine c_add2 (q := k - f) hn hC (by omega) (by omega) (by omega) hrd hcf tfo fol fo9 (zTw_e (f := f) (htk k.toNat (by omega)) (by repeat (first | exact zCe_rf | assumption | refine zCe_u ?_ (by omega)))) (by repeat (first | assumption | refine zMs_r ?_ (by decide))) (fun I17 m17 s17 _ _ => ?_)
        show zB _ _ _ _ _ _ [] _ _
        refine z_iinc (lv2 := [(2, _), (0, _), (1, _)]) (pc2 := 126) rfl rfl rfl rfl rfl ?_
        refine z_goto (pc2 := 27) rfl rfl ?_
        refine z_lv (lv2 := [(0, _), (1, _), (2, _)]) ⟨rfl, rfl, rfl, trivial⟩ ?_
        exact ih _ _ (by omega) (zCe_m (by repeat (first | exact zCe_rf | assumption | refine zCe_u ?_ (by omega))) m17) (by omega) (zNx_eq hnx (m17 12 _ (by omega)) (fun j => m17 6 j (by omega))) (by have h9 := s17; rw [show k - f + 1 = k + 1 - f by omega] at h9; exact h9) (by omega)
      ·
        refine z_aload_n (pc2 := 50) rfl rfl rfl ?_
        refine z_getP (pc2 := 53) rfl rfl rfl rfl t9 ?_
        intro p18 p18e p18k
        clear p18k; replace p18e : p18 = some 5 := by rw [p18e]; first | exact hrd | exact Eq.symm hrd | (simp [zU]; first | done | exact hrd | exact Eq.symm hrd | omega) | (refine Eq.trans (congrArg _ ?_) (Eq.symm hrd); omega)
        subst p18e
        refine z_getP (pc2 := 56) rfl rfl rfl rfl t5 ?_
        intro p19 p19e p19k
        replace p19k : p19 = some 6 := p19k; clear p19e; subst p19k
        refine z_iload_n (pc2 := 57) rfl rfl rfl ?_
        refine z_iald (pc2 := 58) rfl rfl t6 (by omega) (by omega) (by omega) ?_
        intro v20 e20 r20 k20
        replace k20 : (0 : Int) ≤ v20 ∧ v20 ≤ 7 := k20
        refine z_bipush (pc2 := 60) rfl rfl (by decide) ?_
        refine z_icmp_ne (t := 67) (pc2 := 63) rfl rfl rfl (by omega) (by omega) (fun c21 => ?_) (fun c21 => ?_)
        ·
          refine z_iconst (pc2 := 68) rfl rfl ?_
          refine z_istore_n (lv2 := [(3, _), (0, _), (1, _), (2, _)]) (pc2 := 69) rfl rfl rfl rfl ?_
          refine z_aload_n (pc2 := 70) rfl rfl rfl ?_
          refine z_getI (pc2 := 73) 0 rfl rfl rfl rfl rfl t9 ?_
          intro v22 e22 r22 k22
          clear k22
          clear e22
          refine z_aload_n (pc2 := 74) rfl rfl rfl ?_
          refine z_getI (pc2 := 77) 0 rfl rfl rfl rfl rfl t9 ?_
          intro v23 e23 r23 k23
          clear k23
          clear e23
          refine z_isub (pc2 := 78) rfl rfl ?_
          refine z_iload_n (pc2 := 79) rfl rfl rfl ?_
          refine z_if_eq (t := 89) (pc2 := 82) rfl rfl rfl (by omega) (fun c24 => ?_) (fun c24 => by exfalso; omega)
          refine z_iconst (pc2 := 90) rfl rfl ?_
          refine z_isub (pc2 := 91) rfl rfl ?_
          refine z_istore (lv2 := [(4, _), (3, _), (0, _), (1, _), (2, _)]) (pc2 := 93) rfl rfl rfl rfl ?_
          refine z_aload_n (pc2 := 94) rfl rfl rfl ?_
          refine z_iload_n (pc2 := 95) rfl rfl rfl ?_
          refine z_iload_n (pc2 := 96) rfl rfl rfl ?_
          refine z_iconst (pc2 := 97) rfl rfl ?_
          refine z_iadd (pc2 := 98) rfl rfl ?_
          refine z_aload_n (pc2 := 99) rfl rfl rfl ?_
          refine z_iload (pc2 := 101) rfl rfl rfl ?_
          refine z_iload_n (pc2 := 102) rfl rfl rfl ?_
          refine z_iconst (pc2 := 103) rfl rfl ?_
          refine z_callV (y2 := 14) (as := [_, _, _]) (rest := [_, _, _]) (pc2 := 106) rfl rfl rfl rfl t9 rfl ?_
          refine c_Composer_badnessOf hn hC (by omega) (by omega) (by omega) hrd hcf tfo fol fo9 (fun w25 => ?_)
          show zB _ _ _ _ _ _ [_, _, _, _] _ _
          refine z_aload_n (pc2 := 107) rfl rfl rfl ?_
          refine z_getP (pc2 := 110) rfl rfl rfl rfl t9 ?_
          intro p26 p26e p26k
          replace p26k : p26 = some 11 := p26k; clear p26e; subst p26k
          refine z_iload_n (pc2 := 111) rfl rfl rfl ?_
          refine z_iconst (pc2 := 112) rfl rfl ?_
          refine z_iadd (pc2 := 113) rfl rfl ?_
          refine z_iald (pc2 := 114) rfl rfl t11 (by omega) (by omega) (by omega) ?_
          intro v27 e27 r27 k27
          clear k27
          refine z_iadd (pc2 := 115) rfl rfl ?_
          refine z_callV (y2 := 5) (as := [_, _, _]) (rest := []) (pc2 := 118) rfl rfl rfl rfl t9 rfl ?_
          refine z_inl ?_
          refine z_lv (lv2 := [(0, _), (1, _), (2, _), (3, _)]) ⟨rfl, rfl, rfl, rfl, trivial⟩ ?_
          refine z_iload_n (pc2 := 1) rfl rfl rfl ?_
          refine z_aload_n (pc2 := 2) rfl rfl rfl ?_
          refine z_getP (pc2 := 5) rfl rfl rfl rfl t9 ?_
          intro p28 p28e p28k
          replace p28k : p28 = some 11 := p28k; clear p28e; subst p28k
          refine z_iload_n (pc2 := 6) rfl rfl rfl ?_
          refine z_iald (pc2 := 7) rfl rfl t11 (by omega) (by omega) (by omega) ?_
          intro v29 e29 r29 k29
          clear k29
          refine z_icmp_any (t := 24) (pc2 := 10) rfl rfl rfl ?_ ?_
          ·
            refine z_ret rfl rfl ?_
            show zB _ _ _ _ _ _ [] _ _
            refine z_aload_n (pc2 := 119) rfl rfl rfl ?_
            refine z_iload_n (pc2 := 120) rfl rfl rfl ?_
            refine z_callV (y2 := 8) (as := [_]) (rest := []) (pc2 := 123) rfl rfl rfl rfl t9 rfl ?_
            refine c_add2 (q := k - f) hn hC (by omega) (by omega) (by omega) hrd hcf tfo fol fo9 (zTw_e (f := f) (htk k.toNat (by omega)) (by repeat (first | exact zCe_rf | assumption | refine zCe_u ?_ (by omega)))) (by repeat (first | assumption | refine zMs_r ?_ (by decide))) (fun I30 m30 s30 _ _ => ?_)
            show zB _ _ _ _ _ _ [] _ _
            refine z_iinc (lv2 := [(2, _), (4, _), (3, _), (0, _), (1, _)]) (pc2 := 126) rfl rfl rfl rfl rfl ?_
            refine z_goto (pc2 := 27) rfl rfl ?_
            refine z_lv (lv2 := [(0, _), (1, _), (2, _)]) ⟨rfl, rfl, rfl, trivial⟩ ?_
            exact ih _ _ (by omega) (zCe_m (by repeat (first | exact zCe_rf | assumption | refine zCe_u ?_ (by omega))) m30) (by omega) (zNx_eq hnx (m30 12 _ (by omega)) (fun j => m30 6 j (by omega))) (by have h9 := s30; rw [show k - f + 1 = k + 1 - f by omega] at h9; exact h9) (by omega)
          ·
            refine z_aload_n (pc2 := 11) rfl rfl rfl ?_
            refine z_getP (pc2 := 14) rfl rfl rfl rfl t9 ?_
            intro p31 p31e p31k
            replace p31k : p31 = some 11 := p31k; clear p31e; subst p31k
            refine z_iload_n (pc2 := 15) rfl rfl rfl ?_
            refine z_iload_n (pc2 := 16) rfl rfl rfl ?_
            refine z_iast_any (pc2 := 17) rfl rfl t11 (by omega) (by omega) (by omega) (fun _ _ => True.intro) (fun u32 u32r => ?_)
            refine z_aload_n (pc2 := 18) rfl rfl rfl ?_
            refine z_getP (pc2 := 21) rfl rfl rfl rfl t9 ?_
            intro p33 p33e p33k
            replace p33k : p33 = some 12 := p33k; clear p33e; subst p33k
            refine z_iload_n (pc2 := 22) rfl rfl rfl ?_
            refine z_iload_n (pc2 := 23) rfl rfl rfl ?_
            refine z_iast (pc2 := 24) rfl rfl t12 (by omega) (by omega) (by omega) (by omega) (by show (0 : Int) ≤ _ ∧ _ ≤ 40; omega) ?_
            refine z_ret rfl rfl ?_
            show zB _ _ _ _ _ _ [] _ _
            refine z_aload_n (pc2 := 119) rfl rfl rfl ?_
            refine z_iload_n (pc2 := 120) rfl rfl rfl ?_
            refine z_callV (y2 := 8) (as := [_]) (rest := []) (pc2 := 123) rfl rfl rfl rfl t9 rfl ?_
            refine c_add2 (q := k - f) hn hC (by omega) (by omega) (by omega) hrd hcf tfo fol fo9 (zTw_e (f := f) (htk k.toNat (by omega)) (by repeat (first | exact zCe_rf | assumption | refine zCe_u ?_ (by omega)))) (by repeat (first | assumption | refine zMs_r ?_ (by decide))) (fun I34 m34 s34 _ _ => ?_)
            show zB _ _ _ _ _ _ [] _ _
            refine z_iinc (lv2 := [(2, _), (4, _), (3, _), (0, _), (1, _)]) (pc2 := 126) rfl rfl rfl rfl rfl ?_
            refine z_goto (pc2 := 27) rfl rfl ?_
            refine z_lv (lv2 := [(0, _), (1, _), (2, _)]) ⟨rfl, rfl, rfl, trivial⟩ ?_
            exact ih _ _ (by omega) (zCe_m (by repeat (first | exact zCe_rf | assumption | refine zCe_u ?_ (by omega))) m34) (by omega) (zNx_eq (zNx_off (w15a (by omega)).2 (by omega)) (m34 12 _ (by omega)) (fun j => m34 6 j (by omega))) (by have h9 := s34; rw [show k - f + 1 = k + 1 - f by omega] at h9; exact h9) (by omega)
        ·
          refine z_iconst (pc2 := 64) rfl rfl ?_
          refine z_goto (pc2 := 68) rfl rfl ?_
          refine z_istore_n (lv2 := [(3, _), (0, _), (1, _), (2, _)]) (pc2 := 69) rfl rfl rfl rfl ?_
          refine z_aload_n (pc2 := 70) rfl rfl rfl ?_
          refine z_getI (pc2 := 73) 0 rfl rfl rfl rfl rfl t9 ?_
          intro v35 e35 r35 k35
          clear k35
          clear e35
          refine z_aload_n (pc2 := 74) rfl rfl rfl ?_
          refine z_getI (pc2 := 77) 0 rfl rfl rfl rfl rfl t9 ?_
          intro v36 e36 r36 k36
          clear k36
          clear e36
          refine z_isub (pc2 := 78) rfl rfl ?_
          refine z_iload_n (pc2 := 79) rfl rfl rfl ?_
          refine z_if_eq (t := 89) (pc2 := 82) rfl rfl rfl (by omega) (fun c37 => by exfalso; omega) (fun c37 => ?_)
          refine z_aload_n (pc2 := 83) rfl rfl rfl ?_
          refine z_callV (y2 := 11) (as := []) (rest := [_]) (pc2 := 86) rfl rfl rfl rfl t9 rfl ?_
          refine c_Composer_widthOfHyphen hn hC (by omega) (by omega) hrd hcf tfo fol fo9 (by have h9 := htk k.toNat (by omega); unfold zTw at h9; rw [← hI2 6 _ (by omega) (by omega) (by omega)] at h9; omega) rfl hms.2.2.2.2 (fun w38 => ?_)
          show zB _ _ _ _ _ _ [_, _] _ _
          refine z_goto (pc2 := 90) rfl rfl ?_
          refine z_isub (pc2 := 91) rfl rfl ?_
          refine z_istore (lv2 := [(4, _), (3, _), (0, _), (1, _), (2, _)]) (pc2 := 93) rfl rfl rfl rfl ?_
          refine z_aload_n (pc2 := 94) rfl rfl rfl ?_
          refine z_iload_n (pc2 := 95) rfl rfl rfl ?_
          refine z_iload_n (pc2 := 96) rfl rfl rfl ?_
          refine z_iconst (pc2 := 97) rfl rfl ?_
          refine z_iadd (pc2 := 98) rfl rfl ?_
          refine z_aload_n (pc2 := 99) rfl rfl rfl ?_
          refine z_iload (pc2 := 101) rfl rfl rfl ?_
          refine z_iload_n (pc2 := 102) rfl rfl rfl ?_
          refine z_iconst (pc2 := 103) rfl rfl ?_
          refine z_callV (y2 := 14) (as := [_, _, _]) (rest := [_, _, _]) (pc2 := 106) rfl rfl rfl rfl t9 rfl ?_
          refine c_Composer_badnessOf hn hC (by omega) (by omega) (by omega) hrd hcf tfo fol fo9 (fun w39 => ?_)
          show zB _ _ _ _ _ _ [_, _, _, _] _ _
          refine z_aload_n (pc2 := 107) rfl rfl rfl ?_
          refine z_getP (pc2 := 110) rfl rfl rfl rfl t9 ?_
          intro p40 p40e p40k
          replace p40k : p40 = some 11 := p40k; clear p40e; subst p40k
          refine z_iload_n (pc2 := 111) rfl rfl rfl ?_
          refine z_iconst (pc2 := 112) rfl rfl ?_
          refine z_iadd (pc2 := 113) rfl rfl ?_
          refine z_iald (pc2 := 114) rfl rfl t11 (by omega) (by omega) (by omega) ?_
          intro v41 e41 r41 k41
          clear k41
          refine z_iadd (pc2 := 115) rfl rfl ?_
          refine z_callV (y2 := 5) (as := [_, _, _]) (rest := []) (pc2 := 118) rfl rfl rfl rfl t9 rfl ?_
          refine z_inl ?_
          refine z_lv (lv2 := [(0, _), (1, _), (2, _), (3, _)]) ⟨rfl, rfl, rfl, rfl, trivial⟩ ?_
          refine z_iload_n (pc2 := 1) rfl rfl rfl ?_
          refine z_aload_n (pc2 := 2) rfl rfl rfl ?_
          refine z_getP (pc2 := 5) rfl rfl rfl rfl t9 ?_
          intro p42 p42e p42k
          replace p42k : p42 = some 11 := p42k; clear p42e; subst p42k
          refine z_iload_n (pc2 := 6) rfl rfl rfl ?_
          refine z_iald (pc2 := 7) rfl rfl t11 (by omega) (by omega) (by omega) ?_
          intro v43 e43 r43 k43
          clear k43
          refine z_icmp_any (t := 24) (pc2 := 10) rfl rfl rfl ?_ ?_
          ·
            refine z_ret rfl rfl ?_
            show zB _ _ _ _ _ _ [] _ _
            refine z_aload_n (pc2 := 119) rfl rfl rfl ?_
            refine z_iload_n (pc2 := 120) rfl rfl rfl ?_
            refine z_callV (y2 := 8) (as := [_]) (rest := []) (pc2 := 123) rfl rfl rfl rfl t9 rfl ?_
            refine c_add2 (q := k - f) hn hC (by omega) (by omega) (by omega) hrd hcf tfo fol fo9 (zTw_e (f := f) (htk k.toNat (by omega)) (by repeat (first | exact zCe_rf | assumption | refine zCe_u ?_ (by omega)))) (by repeat (first | assumption | refine zMs_r ?_ (by decide))) (fun I44 m44 s44 _ _ => ?_)
            show zB _ _ _ _ _ _ [] _ _
            refine z_iinc (lv2 := [(2, _), (4, _), (3, _), (0, _), (1, _)]) (pc2 := 126) rfl rfl rfl rfl rfl ?_
            refine z_goto (pc2 := 27) rfl rfl ?_
            refine z_lv (lv2 := [(0, _), (1, _), (2, _)]) ⟨rfl, rfl, rfl, trivial⟩ ?_
            exact ih _ _ (by omega) (zCe_m (by repeat (first | exact zCe_rf | assumption | refine zCe_u ?_ (by omega))) m44) (by omega) (zNx_eq hnx (m44 12 _ (by omega)) (fun j => m44 6 j (by omega))) (by have h9 := s44; rw [show k - f + 1 = k + 1 - f by omega] at h9; exact h9) (by omega)
          ·
            refine z_aload_n (pc2 := 11) rfl rfl rfl ?_
            refine z_getP (pc2 := 14) rfl rfl rfl rfl t9 ?_
            intro p45 p45e p45k
            replace p45k : p45 = some 11 := p45k; clear p45e; subst p45k
            refine z_iload_n (pc2 := 15) rfl rfl rfl ?_
            refine z_iload_n (pc2 := 16) rfl rfl rfl ?_
            refine z_iast_any (pc2 := 17) rfl rfl t11 (by omega) (by omega) (by omega) (fun _ _ => True.intro) (fun u46 u46r => ?_)
            refine z_aload_n (pc2 := 18) rfl rfl rfl ?_
            refine z_getP (pc2 := 21) rfl rfl rfl rfl t9 ?_
            intro p47 p47e p47k
            replace p47k : p47 = some 12 := p47k; clear p47e; subst p47k
            refine z_iload_n (pc2 := 22) rfl rfl rfl ?_
            refine z_iload_n (pc2 := 23) rfl rfl rfl ?_
            refine z_iast (pc2 := 24) rfl rfl t12 (by omega) (by omega) (by omega) (by omega) (by show (0 : Int) ≤ _ ∧ _ ≤ 40; omega) ?_
            refine z_ret rfl rfl ?_
            show zB _ _ _ _ _ _ [] _ _
            refine z_aload_n (pc2 := 119) rfl rfl rfl ?_
            refine z_iload_n (pc2 := 120) rfl rfl rfl ?_
            refine z_callV (y2 := 8) (as := [_]) (rest := []) (pc2 := 123) rfl rfl rfl rfl t9 rfl ?_
            refine c_add2 (q := k - f) hn hC (by omega) (by omega) (by omega) hrd hcf tfo fol fo9 (zTw_e (f := f) (htk k.toNat (by omega)) (by repeat (first | exact zCe_rf | assumption | refine zCe_u ?_ (by omega)))) (by repeat (first | assumption | refine zMs_r ?_ (by decide))) (fun I48 m48 s48 _ _ => ?_)
            show zB _ _ _ _ _ _ [] _ _
            refine z_iinc (lv2 := [(2, _), (4, _), (3, _), (0, _), (1, _)]) (pc2 := 126) rfl rfl rfl rfl rfl ?_
            refine z_goto (pc2 := 27) rfl rfl ?_
            refine z_lv (lv2 := [(0, _), (1, _), (2, _)]) ⟨rfl, rfl, rfl, trivial⟩ ?_
            exact ih _ _ (by omega) (zCe_m (by repeat (first | exact zCe_rf | assumption | refine zCe_u ?_ (by omega))) m48) (by omega) (zNx_eq (zNx_off (w15a (by omega)).2 (by omega)) (m48 12 _ (by omega)) (fun j => m48 6 j (by omega))) (by have h9 := s48; rw [show k - f + 1 = k + 1 - f by omega] at h9; exact h9) (by omega)
set_option maxHeartbeats 8000000 in
theorem c_Composer_chooseEndFrom {L : Nat} {xs : Nat → Int32} {n sl : Nat} {T : Nat → zT} {I : Nat → Nat → Int} {P : Nat → Nat → Option Nat} {G : Nat → Nat → Int} {K : List zV → zH → Prop} {f c un : Int} {fo : Nat} (hn : 90 ≤ n) (hC : ∀ a, 1 ≤ a → a ≤ 55 → T a = zFixC a) (hf : 0 ≤ f ∧ f ≤ 39) (hc : 0 ≤ c ∧ c ≤ 40) (hun : 0 ≤ un ∧ un ≤ 24) (hrd : P 9 6 = some 5) (hcf : P 9 7 = some fo) (tfo : T fo = (1, 3, [un])) (fol : fo ≤ n) (fo9 : 91 ≤ fo) (hc5 : I 5 3 = c) (htk : zTkn un c I) (hfc : f < c ∨ c = 0) (hK : ∀ I2, zCe f I I2 → zNx c f I2 → K [] (n, sl, T, I2, P, G)) : zX zMd L xs 4 [.inr (.inl (some 9)), .inl f] (n, sl, T, I, P, G) K := by
  have t5 : T 5 = (1, 7, [1]) := hC 5 (by decide) (by decide)
  have t9 : T 9 = (1, 0, [1]) := hC 9 (by decide) (by decide)
  have t11 : T 11 = (2, 0, [41, 0]) := hC 11 (by decide) (by decide)
  have t12 : T 12 = (2, 0, [41, 22]) := hC 12 (by decide) (by decide)
  refine z_inl ?_
  refine z_lv (lv2 := [(0, _), (1, _)]) ⟨rfl, rfl, trivial⟩ ?_
  refine z_aload_n (pc2 := 1) rfl rfl rfl ?_
  refine z_getP (pc2 := 4) rfl rfl rfl rfl t9 ?_
  intro p1 p1e p1k
  replace p1k : p1 = some 11 := p1k; clear p1e; subst p1k
  refine z_iload_n (pc2 := 5) rfl rfl rfl ?_
  refine z_ldc (2000000000) (pc2 := 7) rfl rfl rfl ?_
  refine z_iast (pc2 := 8) rfl rfl t11 (by omega) (by omega) (by omega) (by omega) True.intro ?_
  refine z_aload_n (pc2 := 9) rfl rfl rfl ?_
  refine z_getP (pc2 := 12) rfl rfl rfl rfl t9 ?_
  intro p2 p2e p2k
  replace p2k : p2 = some 12 := p2k; clear p2e; subst p2k
  refine z_iload_n (pc2 := 13) rfl rfl rfl ?_
  refine z_aload_n (pc2 := 14) rfl rfl rfl ?_
  refine z_getP (pc2 := 17) rfl rfl rfl rfl t9 ?_
  intro p3 p3e p3k
  clear p3k; replace p3e : p3 = some 5 := by rw [p3e]; first | exact hrd | exact Eq.symm hrd | (simp [zU]; first | done | exact hrd | exact Eq.symm hrd | omega) | (refine Eq.trans (congrArg _ ?_) (Eq.symm hrd); omega)
  subst p3e
  refine z_getI (pc2 := 20) 0 rfl rfl rfl rfl rfl t5 ?_
  intro v4 e4 r4 k4
  replace k4 : (0 : Int) ≤ v4 ∧ v4 ≤ 40 := k4
  replace e4 : c = v4 := by rw [e4]; first | exact hc5 | exact Eq.symm hc5 | (simp [zU]; first | done | exact hc5 | exact Eq.symm hc5 | omega) | (refine Eq.trans (congrArg _ ?_) (Eq.symm hc5); omega)
  subst e4
  refine z_iast (pc2 := 21) rfl rfl t12 (by omega) (by omega) (by omega) (by omega) (by show (0 : Int) ≤ _ ∧ _ ≤ 40; omega) ?_
  refine z_aload_n (pc2 := 22) rfl rfl rfl ?_
  refine z_callV (y2 := 7) (as := []) (rest := []) (pc2 := 25) rfl rfl rfl rfl t9 rfl ?_
  refine z_inl ?_
  refine z_lv (lv2 := [(0, _)]) ⟨rfl, trivial⟩ ?_
  refine z_aload_n (pc2 := 1) rfl rfl rfl ?_
  refine z_iconst (pc2 := 2) rfl rfl ?_
  refine z_putI (pc2 := 5) rfl rfl rfl rfl rfl rfl t9 (by omega) True.intro ?_
  refine z_aload_n (pc2 := 6) rfl rfl rfl ?_
  refine z_iconst (pc2 := 7) rfl rfl ?_
  refine z_putI (pc2 := 10) rfl rfl rfl rfl rfl rfl t9 (by omega) (by show (0 : Int) ≤ _ ∧ _ ≤ 100; omega) ?_
  refine z_aload_n (pc2 := 11) rfl rfl rfl ?_
  refine z_iconst (pc2 := 12) rfl rfl ?_
  refine z_putI (pc2 := 15) rfl rfl rfl rfl rfl rfl t9 (by omega) (by show (0 : Int) ≤ _ ∧ _ ≤ 100; omega) ?_
  refine z_aload_n (pc2 := 16) rfl rfl rfl ?_
  refine z_iconst (pc2 := 17) rfl rfl ?_
  refine z_putI (pc2 := 20) rfl rfl rfl rfl rfl rfl t9 (by omega) (by show (0 : Int) ≤ _ ∧ _ ≤ 100; omega) ?_
  refine z_aload_n (pc2 := 21) rfl rfl rfl ?_
  refine z_iconst (pc2 := 22) rfl rfl ?_
  refine z_putI (pc2 := 25) rfl rfl rfl rfl rfl rfl t9 (by omega) (by show (-1 : Int) ≤ _ ∧ _ ≤ 23; omega) ?_
  refine z_ret rfl rfl ?_
  show zB _ _ _ _ _ _ [] _ _
  refine z_iload_n (pc2 := 26) rfl rfl rfl ?_
  refine z_istore_n (lv2 := [(2, _), (0, _), (1, _)]) (pc2 := 27) rfl rfl rfl rfl ?_
  refine z_lv (lv2 := [(0, _), (1, _), (2, _)]) ⟨rfl, rfl, rfl, trivial⟩ ?_
  exact cl_Composer_chooseEndFrom (c := c) (un := un) hn hC (by omega) (by omega) (by omega) hrd hcf tfo fol fo9 hc5 htk hfc hK _ _ _ (by omega) (by repeat (first | exact zCe_rf | assumption | refine zCe_u ?_ (by omega))) (by omega) (zNx_eq (zNx_end (I := I) (v := 2000000000) (by omega)) (by simp [zU]) (fun j => by simp [zU])) (zMs_in (a := 0) (b := 0) (s := 0) (e := -1) (by simp [zU]) (by simp [zU]) (by simp [zU]) (by simp [zU]) (by omega) (by omega) (by omega) (by omega)) (Nat.lt_succ_self _)
set_option maxHeartbeats 8000000 in
theorem cl_Composer_chooseBreaks {L : Nat} {xs : Nat → Int32} {n sl : Nat} {T : Nat → zT} {I : Nat → Nat → Int} {P : Nat → Nat → Option Nat} {G : Nat → Nat → Int} {K : List zV → zH → Prop} {c un : Int} {fo : Nat} (hn : 90 ≤ n) (hC : ∀ a, 1 ≤ a → a ≤ 55 → T a = zFixC a) (hc : 0 ≤ c ∧ c ≤ 40) (hun : 0 ≤ un ∧ un ≤ 24) (hrd : P 9 6 = some 5) (hcf : P 9 7 = some fo) (tfo : T fo = (1, 3, [un])) (fol : fo ≤ n) (fo9 : 91 ≤ fo) (hc5 : I 5 3 = c) (htk : zTkn un c I) (hK : ∀ I2, zCf I I2 → zNx c 0 I2 → zAllN c 0 I2 → K [] (n, sl, T, I2, P, G)) (m : Nat) : ∀ (I2 : Nat → Nat → Int), ∀ (k : Int), -1 ≤ k ∧ k ≤ 39 → zCf I I2 → k ≤ c - 1 → zAllN c k I2 → (k + 1).toNat < m → zB zMd L xs 3 10 [(0, .inr (.inl (some 9))), (1, .inl k)] [] (n, sl, T, I2, P, G) K := by
  have t5 : T 5 = (1, 7, [1]) := hC 5 (by decide) (by decide)
  have t9 : T 9 = (1, 0, [1]) := hC 9 (by decide) (by decide)
  induction m with
  | zero => intro I2 k hk hI2 hb3 hall hm; omega
  | succ m ih =>
    intro I2 k hk hI2 hb3 hall hm
    refine z_iload_n (pc2 := 11) rfl rfl rfl ?_
    refine z_if_le (t := 38) (pc2 := 14) rfl rfl rfl (by omega) (fun c1 => ?_) (fun c1 => ?_)
    ·
      refine z_aload_n (pc2 := 39) rfl rfl rfl ?_
      refine z_iconst (pc2 := 40) rfl rfl ?_
      refine z_callV (y2 := 4) (as := [_]) (rest := []) (pc2 := 43) rfl rfl rfl rfl t9 rfl ?_
      refine c_Composer_chooseEndFrom (c := c) (un := un) hn hC (by omega) (by omega) (by omega) hrd hcf tfo fol fo9 ((hI2 5 3 (by omega) (by omega) (by omega)).trans hc5) (zTkn_f2 htk hI2) (by omega) (fun I2 e2 x2 => ?_)
      show zB _ _ _ _ _ _ [] _ _
      refine z_ret rfl rfl ?_
      exact hK _ (zCf_s hI2 e2) x2 (zAllN_e (zAllN_m hall (by omega)) e2)
    ·
      refine z_aload_n (pc2 := 15) rfl rfl rfl ?_
      refine z_getP (pc2 := 18) rfl rfl rfl rfl t9 ?_
      intro p3 p3e p3k
      clear p3k; replace p3e : p3 = some 5 := by rw [p3e]; first | exact hrd | exact Eq.symm hrd | (simp [zU]; first | done | exact hrd | exact Eq.symm hrd | omega) | (refine Eq.trans (congrArg _ ?_) (Eq.symm hrd); omega)
      subst p3e
      refine z_iload_n (pc2 := 19) rfl rfl rfl ?_
      refine z_iconst (pc2 := 20) rfl rfl ?_
      refine z_isub (pc2 := 21) rfl rfl ?_
      refine z_callV (y2 := 73) (as := [_]) (rest := []) (pc2 := 24) rfl rfl rfl rfl t5 rfl ?_
      refine c_Reading_mayBreakBehind (c := c) hn hC (by omega) (by omega) ((hI2 5 3 (by omega) (by omega) (by omega)).trans hc5) (fun w4 w4r w4a w4b => ?_)
      show zB _ _ _ _ _ _ [_] _ _
      refine z_if_eq (t := 32) (pc2 := 27) rfl rfl rfl (by omega) (fun c5 => ?_) (fun c5 => ?_)
      ·
        refine z_iinc (lv2 := [(1, _), (0, _)]) (pc2 := 35) rfl rfl rfl rfl rfl ?_
        refine z_goto (pc2 := 10) rfl rfl ?_
        refine z_lv (lv2 := [(0, _), (1, _)]) ⟨rfl, rfl, trivial⟩ ?_
        exact ih _ _ (by omega) hI2 (by omega) (zAllN_k hall (w4b (by omega) (by omega))) (by omega)
      ·
        refine z_aload_n (pc2 := 28) rfl rfl rfl ?_
        refine z_iload_n (pc2 := 29) rfl rfl rfl ?_
        refine z_callV (y2 := 4) (as := [_]) (rest := []) (pc2 := 32) rfl rfl rfl rfl t9 rfl ?_
        refine c_Composer_chooseEndFrom (c := c) (un := un) hn hC (by omega) (by omega) (by omega) hrd hcf tfo fol fo9 ((hI2 5 3 (by omega) (by omega) (by omega)).trans hc5) (zTkn_f2 htk hI2) (by omega) (fun I6 e6 x6 => ?_)
        show zB _ _ _ _ _ _ [] _ _
        refine z_iinc (lv2 := [(1, _), (0, _)]) (pc2 := 35) rfl rfl rfl rfl rfl ?_
        refine z_goto (pc2 := 10) rfl rfl ?_
        refine z_lv (lv2 := [(0, _), (1, _)]) ⟨rfl, rfl, trivial⟩ ?_
        exact ih _ _ (by omega) (zCf_s hI2 e6) (by omega) (zAllN_s (by omega) hall e6 x6) (by omega)
set_option maxHeartbeats 8000000 in
theorem c_Composer_chooseBreaks {L : Nat} {xs : Nat → Int32} {n sl : Nat} {T : Nat → zT} {I : Nat → Nat → Int} {P : Nat → Nat → Option Nat} {G : Nat → Nat → Int} {K : List zV → zH → Prop} {c un : Int} {fo : Nat} (hn : 90 ≤ n) (hC : ∀ a, 1 ≤ a → a ≤ 55 → T a = zFixC a) (hc : 0 ≤ c ∧ c ≤ 40) (hun : 0 ≤ un ∧ un ≤ 24) (hrd : P 9 6 = some 5) (hcf : P 9 7 = some fo) (tfo : T fo = (1, 3, [un])) (fol : fo ≤ n) (fo9 : 91 ≤ fo) (hc5 : I 5 3 = c) (htk : zTkn un c I) (hK : ∀ I2, zCf I I2 → zNx c 0 I2 → zAllN c 0 I2 → K [] (n, sl, T, I2, P, G)) : zX zMd L xs 3 [.inr (.inl (some 9))] (n, sl, T, I, P, G) K := by
  have t5 : T 5 = (1, 7, [1]) := hC 5 (by decide) (by decide)
  have t9 : T 9 = (1, 0, [1]) := hC 9 (by decide) (by decide)
  refine z_inl ?_
  refine z_lv (lv2 := [(0, _)]) ⟨rfl, trivial⟩ ?_
  refine z_aload_n (pc2 := 1) rfl rfl rfl ?_
  refine z_getP (pc2 := 4) rfl rfl rfl rfl t9 ?_
  intro p1 p1e p1k
  clear p1k; replace p1e : p1 = some 5 := by rw [p1e]; first | exact hrd | exact Eq.symm hrd | (simp [zU]; first | done | exact hrd | exact Eq.symm hrd | omega) | (refine Eq.trans (congrArg _ ?_) (Eq.symm hrd); omega)
  subst p1e
  refine z_getI (pc2 := 7) 0 rfl rfl rfl rfl rfl t5 ?_
  intro v2 e2 r2 k2
  replace k2 : (0 : Int) ≤ v2 ∧ v2 ≤ 40 := k2
  replace e2 : c = v2 := by rw [e2]; first | exact hc5 | exact Eq.symm hc5 | (simp [zU]; first | done | exact hc5 | exact Eq.symm hc5 | omega) | (refine Eq.trans (congrArg _ ?_) (Eq.symm hc5); omega)
  subst e2
  refine z_iconst (pc2 := 8) rfl rfl ?_
  refine z_isub (pc2 := 9) rfl rfl ?_
  refine z_istore_n (lv2 := [(1, _), (0, _)]) (pc2 := 10) rfl rfl rfl rfl ?_
  refine z_lv (lv2 := [(0, _), (1, _)]) ⟨rfl, rfl, trivial⟩ ?_
  exact cl_Composer_chooseBreaks (c := c) (un := un) hn hC (by omega) (by omega) hrd hcf tfo fol fo9 hc5 htk hK _ _ _ (by omega) (fun _ _ _ _ _ => rfl) (by omega) (zAllN_c (by omega)) (Nat.lt_succ_self _)
set_option maxHeartbeats 8000000 in
theorem cl_Composer_countLines {L : Nat} {xs : Nat → Int32} {n sl : Nat} {T : Nat → zT} {I : Nat → Nat → Int} {P : Nat → Nat → Option Nat} {G : Nat → Nat → Int} {K : List zV → zH → Prop} {c : Int} (hn : 90 ≤ n) (hC : ∀ a, 1 ≤ a → a ≤ 55 → T a = zFixC a) (hc : 0 ≤ c ∧ c ≤ 40) (hrd : P 9 6 = some 5) (hc5 : I 5 3 = c) (hn0 : zNx c 0 I) (hall : zAllN c 0 I) (hK : ∀ e, (1 ≤ e ∧ e ≤ 40) → zRmn I c e.toNat 0 → K [.inl e] (n, sl, T, I, P, G)) (m : Nat) : ∀ (t a : Int), 1 ≤ t ∧ t ≤ 40 → 0 ≤ a ∧ a ≤ 40 → a ≤ c ∧ (a = c ∨ t ≤ a) → zPl c a I → (∀ m, zRmn I c m a → zRmn I c (m + t.toNat) 0) → (41 - t).toNat < m → zB zMd L xs 6 9 [(0, .inr (.inl (some 9))), (1, .inl t), (2, .inl a)] [] (n, sl, T, I, P, G) K := by
  have t5 : T 5 = (1, 7, [1]) := hC 5 (by decide) (by decide)
  have t9 : T 9 = (1, 0, [1]) := hC 9 (by decide) (by decide)
  have t12 : T 12 = (2, 0, [41, 22]) := hC 12 (by decide) (by decide)
  induction m with
  | zero => intro t a ht ha hb3 hpl hrm hm; omega
  | succ m ih =>
    intro t a ht ha hb3 hpl hrm hm
    refine z_iload_n (pc2 := 10) rfl rfl rfl ?_
    refine z_aload_n (pc2 := 11) rfl rfl rfl ?_
    refine z_getP (pc2 := 14) rfl rfl rfl rfl t9 ?_
    intro p1 p1e p1k
    clear p1k; replace p1e : p1 = some 5 := by rw [p1e]; first | exact hrd | exact Eq.symm hrd | (simp [zU]; first | done | exact hrd | exact Eq.symm hrd | omega) | (refine Eq.trans (congrArg _ ?_) (Eq.symm hrd); omega)
    subst p1e
    refine z_getI (pc2 := 17) 0 rfl rfl rfl rfl rfl t5 ?_
    intro v2 e2 r2 k2
    replace k2 : (0 : Int) ≤ v2 ∧ v2 ≤ 40 := k2
    replace e2 : c = v2 := by rw [e2]; first | exact hc5 | exact Eq.symm hc5 | (simp [zU]; first | done | exact hc5 | exact Eq.symm hc5 | omega) | (refine Eq.trans (congrArg _ ?_) (Eq.symm hc5); omega)
    subst e2
    refine z_icmp_ge (t := 39) (pc2 := 20) rfl rfl rfl (by omega) (by omega) (fun c3 => ?_) (fun c3 => ?_)
    ·
      refine z_iload_n (pc2 := 40) rfl rfl rfl ?_
      refine z_iret rfl rfl ?_
      exact hK _ (by omega) (by have h9 := hrm 0 (show a = c by omega); rw [Nat.zero_add] at h9; exact h9)
    ·
      refine z_iload_n (pc2 := 21) rfl rfl rfl ?_
      refine z_bipush (pc2 := 23) rfl rfl (by decide) ?_
      refine z_icmp_ge (t := 39) (pc2 := 26) rfl rfl rfl (by omega) (by omega) (fun c4 => ?_) (fun c4 => ?_)
      ·
        refine z_iload_n (pc2 := 40) rfl rfl rfl ?_
        refine z_iret rfl rfl ?_
        exact hK _ (by omega) (by have h9 := hrm 0 (show a = c by omega); rw [Nat.zero_add] at h9; exact h9)
      ·
        refine z_iinc (lv2 := [(1, _), (0, _), (2, _)]) (pc2 := 29) rfl rfl rfl rfl rfl ?_
        refine z_aload_n (pc2 := 30) rfl rfl rfl ?_
        refine z_getP (pc2 := 33) rfl rfl rfl rfl t9 ?_
        intro p5 p5e p5k
        replace p5k : p5 = some 12 := p5k; clear p5e; subst p5k
        refine z_iload_n (pc2 := 34) rfl rfl rfl ?_
        refine z_iald (pc2 := 35) rfl rfl t12 (by omega) (by omega) (by omega) ?_
        intro v6 e6 r6 k6
        replace k6 : (0 : Int) ≤ v6 ∧ v6 ≤ 40 := k6
        have x6 := zPl_nx hpl hn0 hall (by omega)
        have y6 := zPl_s x6
        unfold zNx at x6
        rw [← e6] at x6 y6
        refine z_istore_n (lv2 := [(2, _), (1, _), (0, _)]) (pc2 := 36) rfl rfl rfl rfl ?_
        refine z_goto (pc2 := 9) rfl rfl ?_
        refine z_lv (lv2 := [(0, _), (1, _), (2, _)]) ⟨rfl, rfl, rfl, trivial⟩ ?_
        exact ih _ _ (by omega) (by omega) (by omega) y6 (fun m hm2 => by have h9 := hrm (m + 1) ⟨by omega, by rw [← e6]; exact hm2⟩; rw [show m + 1 + t.toNat = m + (t + 1).toNat by omega] at h9; exact h9) (by omega)
set_option maxHeartbeats 8000000 in
theorem c_Composer_countLines {L : Nat} {xs : Nat → Int32} {n sl : Nat} {T : Nat → zT} {I : Nat → Nat → Int} {P : Nat → Nat → Option Nat} {G : Nat → Nat → Int} {K : List zV → zH → Prop} {c : Int} (hn : 90 ≤ n) (hC : ∀ a, 1 ≤ a → a ≤ 55 → T a = zFixC a) (hc : 0 ≤ c ∧ c ≤ 40) (hrd : P 9 6 = some 5) (hc5 : I 5 3 = c) (hn0 : zNx c 0 I) (hall : zAllN c 0 I) (hK : ∀ e, (1 ≤ e ∧ e ≤ 40) → zRmn I c e.toNat 0 → K [.inl e] (n, sl, T, I, P, G)) : zX zMd L xs 6 [.inr (.inl (some 9))] (n, sl, T, I, P, G) K := by
  have t9 : T 9 = (1, 0, [1]) := hC 9 (by decide) (by decide)
  have t12 : T 12 = (2, 0, [41, 22]) := hC 12 (by decide) (by decide)
  refine z_inl ?_
  refine z_lv (lv2 := [(0, _)]) ⟨rfl, trivial⟩ ?_
  refine z_iconst (pc2 := 1) rfl rfl ?_
  refine z_istore_n (lv2 := [(1, _), (0, _)]) (pc2 := 2) rfl rfl rfl rfl ?_
  refine z_aload_n (pc2 := 3) rfl rfl rfl ?_
  refine z_getP (pc2 := 6) rfl rfl rfl rfl t9 ?_
  intro p1 p1e p1k
  replace p1k : p1 = some 12 := p1k; clear p1e; subst p1k
  refine z_iconst (pc2 := 7) rfl rfl ?_
  refine z_iald (pc2 := 8) rfl rfl t12 (by omega) (by omega) (by omega) ?_
  intro v2 e2 r2 k2
  replace k2 : (0 : Int) ≤ v2 ∧ v2 ≤ 40 := k2
  refine z_istore_n (lv2 := [(2, _), (1, _), (0, _)]) (pc2 := 9) rfl rfl rfl rfl ?_
  have x2 := hn0
  have y2 := zPl_s hn0
  unfold zNx at x2
  rw [show (0 : Int).toNat = 0 from rfl] at x2 y2
  replace e2 : v2 = I 12 0 := e2
  rw [← e2] at x2 y2
  refine z_lv (lv2 := [(0, _), (1, _), (2, _)]) ⟨rfl, rfl, rfl, trivial⟩ ?_
  exact cl_Composer_countLines (c := c) hn hC (by omega) hrd hc5 hn0 hall hK _ _ _ (by omega) (by omega) (by omega) y2 (fun m hm => ⟨by omega, by rw [show (0 : Int).toNat = 0 from rfl, ← e2]; exact hm⟩) (Nat.lt_succ_self _)
