/-! the reference: a line from one break to another -/
set_option maxHeartbeats 8000000 in
theorem l_lineOf {L : Nat} {xs : Nat → Int32} {n sl : Nat} {T : Nat → zT} {I : Nat → Nat → Int} {P : Nat → Nat → Option Nat} {K : List zV → zH → Prop} {a b z : Int} (hT : ∀ a, 56 ≤ a → a ≤ 90 → T a = zFix a) (ha : 0 ≤ a ∧ a ≤ 40) (hb : 0 ≤ b ∧ b ≤ 40) (hz : 0 ≤ z ∧ z ≤ 1) (hrl : zTok I) (hK : ∀ I2 G2 L2 S H, zLf I I2 → zNd I2 → I2 56 31 = L2 → I2 56 36 = S → I2 56 37 = H → (0 ≤ L2 ∧ L2 ≤ 40) → (0 ≤ S ∧ S ≤ L2) → (0 ≤ H ∧ H ≤ 3 * L2) → K [] (n, sl, T, I2, P, G2)) (m : Nat) : ∀ (I2 : Nat → Nat → Int) (G2 : Nat → Nat → Int), ∀ (t L2 S H : Int), I2 56 31 = L2 → I2 56 36 = S → I2 56 37 = H → 0 ≤ t ∧ t ≤ 41 → 0 ≤ L2 ∧ L2 ≤ 40 → 0 ≤ S ∧ S ≤ 40 → 0 ≤ H ∧ H ≤ 120 → zLf I I2 → L2 ≤ t - a ∧ S ≤ L2 ∧ H ≤ 3 * L2 → zNd I2 → (41 - t).toNat < m → zB zMd L xs 230 47 [(0, .inr (.inl (some 56))), (1, .inl a), (2, .inl b), (3, .inl z), (4, .inl t)] [] (n, sl, T, I2, P, G2) K := by
  have t56 : T 56 = (1, 12, [1]) := hT 56 (by decide) (by decide)
  have t80 : T 80 = (2, 0, [40, 0]) := hT 80 (by decide) (by decide)
  have t81 : T 81 = (2, 0, [40, 8]) := hT 81 (by decide) (by decide)
  induction m with
  | zero => intro I2 G2 t L2 S H hL3 hS3 hH3 ht hL2 hS hH hI2 hb3 hn3 hm; omega
  | succ m ih =>
    intro I2 G2 t L2 S H hL3 hS3 hH3 ht hL2 hS hH hI2 hb3 hn3 hm
    refine z_iload (pc2 := 49) rfl rfl rfl ?_
    refine z_iload_n (pc2 := 50) rfl rfl rfl ?_
    refine z_icmp_ge (t := 161) (pc2 := 53) rfl rfl rfl (by omega) (by omega) (fun c1 => ?_) (fun c1 => ?_)
    ·
      refine z_ret rfl rfl ?_
      exact hK _ _ _ _ _ hI2 hn3 hL3 hS3 hH3 (by omega) (by omega) (by omega)
    ·
      refine z_iload_n (pc2 := 54) rfl rfl rfl ?_
      refine z_if_eq (t := 69) (pc2 := 57) rfl rfl rfl (by omega) (fun c2 => ?_) (fun c2 => ?_)
      ·
        refine z_iconst (pc2 := 70) rfl rfl ?_
        refine z_istore (lv2 := [(5, _), (0, _), (1, _), (2, _), (3, _), (4, _)]) (pc2 := 72) rfl rfl rfl rfl ?_
        refine z_aload_n (pc2 := 73) rfl rfl rfl ?_
        refine z_getP (pc2 := 76) rfl rfl rfl rfl t56 ?_
        intro p3 p3e p3k; replace p3k : p3 = some 80 := p3k; clear p3e; subst p3k
        refine z_iload (pc2 := 78) rfl rfl rfl ?_
        refine z_iald (pc2 := 79) rfl rfl t80 (by omega) (by omega) (by decide) ?_
        intro v4 e4 r4 k4
        clear k4
        refine z_istore (lv2 := [(6, _), (5, _), (0, _), (1, _), (2, _), (3, _), (4, _)]) (pc2 := 81) rfl rfl rfl rfl ?_
        refine z_iload (pc2 := 83) rfl rfl rfl ?_
        refine z_bipush (pc2 := 85) rfl rfl (by decide) ?_
        refine z_icmp_ne (t := 102) (pc2 := 88) rfl rfl rfl (by omega) (by omega) (fun c5 => ?_) (fun c5 => ?_)
        ·
          refine z_iload (pc2 := 104) rfl rfl rfl ?_
          refine z_bipush (pc2 := 106) rfl rfl (by decide) ?_
          refine z_icmp_ne (t := 133) (pc2 := 109) rfl rfl rfl (by omega) (by omega) (fun c6 => ?_) (fun c6 => ?_)
          ·
            refine z_iload (pc2 := 135) rfl rfl rfl ?_
            refine z_iconst (pc2 := 136) rfl rfl ?_
            refine z_icmp_ne (t := 144) (pc2 := 139) rfl rfl rfl (by omega) (by omega) (fun c7 => ?_) (fun c7 => ?_)
            ·
              refine z_aload_n (pc2 := 145) rfl rfl rfl ?_
              refine z_aload_n (pc2 := 146) rfl rfl rfl ?_
              refine z_getP (pc2 := 149) rfl rfl rfl rfl t56 ?_
              intro p8 p8e p8k; replace p8k : p8 = some 81 := p8k; clear p8e; subst p8k
              refine z_iload (pc2 := 151) rfl rfl rfl ?_
              refine z_iald (pc2 := 152) rfl rfl t81 (by omega) (by omega) (by decide) ?_
              intro v9 e9 r9 k9
              replace k9 : zGd v9 := k9
              refine z_callV (y2 := 228) (as := [_]) (rest := []) (pc2 := 155) rfl rfl rfl rfl t56 rfl ?_
              refine m_stands (L2 := L2) (S := S) (H := H) hT (by omega) (by omega) (by omega) (by omega) (by assumption) (by first | exact hL3 | (simp [zU]; exact hL3)) (by first | exact hS3 | (simp [zU]; exact hS3)) (by first | exact hH3 | (simp [zU]; exact hH3)) (by omega) (by omega) (fun Iw10 Gw10 Sw10 Hw10 lw10 aw10 bw10 cw10 dw10 fw10 ow10 qw10 => ?_)
              have nw10 : zNd Iw10 := zNd_eq (I := I2) hn3 (by first | exact ow10 33 (by decide) (by decide) (by decide) (by decide) | (rw [ow10 33 (by decide) (by decide) (by decide) (by decide)]; simp [zU])) (fun k => by first | exact qw10 k | (rw [qw10]; simp [zU]))
              replace lw10 := zLf_tr (I := I) (by repeat (first | exact zLf_rf _ | assumption | refine zLf_a ?_ (by decide) | refine zLf_f ?_ (by decide))) lw10
              show zB _ _ _ _ _ _ [] _ _
              refine z_iinc (lv2 := [(4, _), (6, _), (5, _), (0, _), (1, _), (2, _), (3, _)]) (pc2 := 158) rfl rfl rfl rfl rfl ?_
              refine z_goto (pc2 := 47) rfl rfl ?_
              refine z_lv (lv2 := [(0, _), (1, _), (2, _), (3, _), (4, _)]) ⟨rfl, rfl, rfl, rfl, rfl, trivial⟩ ?_
              exact ih _ _ _ _ _ _ (by assumption) (by assumption) (by assumption) (by omega) (by omega) (by omega) (by omega) (by assumption) (by omega) (by assumption) (by omega)
            ·
              refine z_iload (pc2 := 141) rfl rfl rfl ?_
              refine z_if_ne (t := 155) (pc2 := 144) rfl rfl rfl (by omega) (fun c11 => by exfalso; omega) (fun c11 => ?_)
              refine z_aload_n (pc2 := 145) rfl rfl rfl ?_
              refine z_aload_n (pc2 := 146) rfl rfl rfl ?_
              refine z_getP (pc2 := 149) rfl rfl rfl rfl t56 ?_
              intro p12 p12e p12k; replace p12k : p12 = some 81 := p12k; clear p12e; subst p12k
              refine z_iload (pc2 := 151) rfl rfl rfl ?_
              refine z_iald (pc2 := 152) rfl rfl t81 (by omega) (by omega) (by decide) ?_
              intro v13 e13 r13 k13
              replace k13 : zGd v13 := k13
              refine z_callV (y2 := 228) (as := [_]) (rest := []) (pc2 := 155) rfl rfl rfl rfl t56 rfl ?_
              refine m_stands (L2 := L2) (S := S) (H := H) hT (by omega) (by omega) (by omega) (by omega) (by assumption) (by first | exact hL3 | (simp [zU]; exact hL3)) (by first | exact hS3 | (simp [zU]; exact hS3)) (by first | exact hH3 | (simp [zU]; exact hH3)) (by omega) (by omega) (fun Iw14 Gw14 Sw14 Hw14 lw14 aw14 bw14 cw14 dw14 fw14 ow14 qw14 => ?_)
              have nw14 : zNd Iw14 := zNd_eq (I := I2) hn3 (by first | exact ow14 33 (by decide) (by decide) (by decide) (by decide) | (rw [ow14 33 (by decide) (by decide) (by decide) (by decide)]; simp [zU])) (fun k => by first | exact qw14 k | (rw [qw14]; simp [zU]))
              replace lw14 := zLf_tr (I := I) (by repeat (first | exact zLf_rf _ | assumption | refine zLf_a ?_ (by decide) | refine zLf_f ?_ (by decide))) lw14
              show zB _ _ _ _ _ _ [] _ _
              refine z_iinc (lv2 := [(4, _), (6, _), (5, _), (0, _), (1, _), (2, _), (3, _)]) (pc2 := 158) rfl rfl rfl rfl rfl ?_
              refine z_goto (pc2 := 47) rfl rfl ?_
              refine z_lv (lv2 := [(0, _), (1, _), (2, _), (3, _), (4, _)]) ⟨rfl, rfl, rfl, rfl, rfl, trivial⟩ ?_
              exact ih _ _ _ _ _ _ (by assumption) (by assumption) (by assumption) (by omega) (by omega) (by omega) (by omega) (by assumption) (by omega) (by assumption) (by omega)
          ·
            refine z_iload (pc2 := 111) rfl rfl rfl ?_
            refine z_if_eq (t := 155) (pc2 := 114) rfl rfl rfl (by omega) (fun c15 => ?_) (fun c15 => by exfalso; omega)
            refine z_iinc (lv2 := [(4, _), (6, _), (5, _), (0, _), (1, _), (2, _), (3, _)]) (pc2 := 158) rfl rfl rfl rfl rfl ?_
            refine z_goto (pc2 := 47) rfl rfl ?_
            refine z_lv (lv2 := [(0, _), (1, _), (2, _), (3, _), (4, _)]) ⟨rfl, rfl, rfl, rfl, rfl, trivial⟩ ?_
            exact ih _ _ _ _ _ _ (by assumption) (by assumption) (by assumption) (by omega) (by omega) (by omega) (by omega) (by assumption) (by omega) (by assumption) (by omega)
        ·
          refine z_aload_n (pc2 := 89) rfl rfl rfl ?_
          refine z_aload_n (pc2 := 90) rfl rfl rfl ?_
          refine z_getP (pc2 := 93) rfl rfl rfl rfl t56 ?_
          intro p16 p16e p16k; replace p16k : p16 = some 81 := p16k; clear p16e; subst p16k
          refine z_iload (pc2 := 95) rfl rfl rfl ?_
          refine z_iald (pc2 := 96) rfl rfl t81 (by omega) (by omega) (by decide) ?_
          intro v17 e17 r17 k17
          replace k17 : zGd v17 := k17
          refine z_callV (y2 := 229) (as := [_]) (rest := []) (pc2 := 99) rfl rfl rfl rfl t56 rfl ?_
          refine m_calls hT (zLo_tk hI2 hrl (by assumption) (by assumption) (by omega)) hn3 (fun Iw18 Gw18 lw18 nw18 ow18 => ?_)
          have h31w18 := (ow18 31 (by decide)).trans hL3
          have h36w18 := (ow18 36 (by decide)).trans hS3
          have h37w18 := (ow18 37 (by decide)).trans hH3
          replace lw18 := zLf_tr hI2 lw18
          show zB _ _ _ _ _ _ [] _ _
          refine z_goto (pc2 := 155) rfl rfl ?_
          refine z_iinc (lv2 := [(4, _), (6, _), (5, _), (0, _), (1, _), (2, _), (3, _)]) (pc2 := 158) rfl rfl rfl rfl rfl ?_
          refine z_goto (pc2 := 47) rfl rfl ?_
          refine z_lv (lv2 := [(0, _), (1, _), (2, _), (3, _), (4, _)]) ⟨rfl, rfl, rfl, rfl, rfl, trivial⟩ ?_
          exact ih _ _ _ _ _ _ (by assumption) (by assumption) (by assumption) (by omega) (by omega) (by omega) (by omega) (by assumption) (by omega) (by assumption) (by omega)
      ·
        refine z_iload (pc2 := 59) rfl rfl rfl ?_
        refine z_iload_n (pc2 := 60) rfl rfl rfl ?_
        refine z_iconst (pc2 := 61) rfl rfl ?_
        refine z_isub (pc2 := 62) rfl rfl ?_
        refine z_icmp_ne (t := 69) (pc2 := 65) rfl rfl rfl (by omega) (by omega) (fun c19 => ?_) (fun c19 => ?_)
        ·
          refine z_iconst (pc2 := 70) rfl rfl ?_
          refine z_istore (lv2 := [(5, _), (0, _), (1, _), (2, _), (3, _), (4, _)]) (pc2 := 72) rfl rfl rfl rfl ?_
          refine z_aload_n (pc2 := 73) rfl rfl rfl ?_
          refine z_getP (pc2 := 76) rfl rfl rfl rfl t56 ?_
          intro p20 p20e p20k; replace p20k : p20 = some 80 := p20k; clear p20e; subst p20k
          refine z_iload (pc2 := 78) rfl rfl rfl ?_
          refine z_iald (pc2 := 79) rfl rfl t80 (by omega) (by omega) (by decide) ?_
          intro v21 e21 r21 k21
          clear k21
          refine z_istore (lv2 := [(6, _), (5, _), (0, _), (1, _), (2, _), (3, _), (4, _)]) (pc2 := 81) rfl rfl rfl rfl ?_
          refine z_iload (pc2 := 83) rfl rfl rfl ?_
          refine z_bipush (pc2 := 85) rfl rfl (by decide) ?_
          refine z_icmp_ne (t := 102) (pc2 := 88) rfl rfl rfl (by omega) (by omega) (fun c22 => ?_) (fun c22 => ?_)
          ·
            refine z_iload (pc2 := 104) rfl rfl rfl ?_
            refine z_bipush (pc2 := 106) rfl rfl (by decide) ?_
            refine z_icmp_ne (t := 133) (pc2 := 109) rfl rfl rfl (by omega) (by omega) (fun c23 => ?_) (fun c23 => ?_)
            ·
              refine z_iload (pc2 := 135) rfl rfl rfl ?_
              refine z_iconst (pc2 := 136) rfl rfl ?_
              refine z_icmp_ne (t := 144) (pc2 := 139) rfl rfl rfl (by omega) (by omega) (fun c24 => ?_) (fun c24 => ?_)
              ·
                refine z_aload_n (pc2 := 145) rfl rfl rfl ?_
                refine z_aload_n (pc2 := 146) rfl rfl rfl ?_
                refine z_getP (pc2 := 149) rfl rfl rfl rfl t56 ?_
                intro p25 p25e p25k; replace p25k : p25 = some 81 := p25k; clear p25e; subst p25k
                refine z_iload (pc2 := 151) rfl rfl rfl ?_
                refine z_iald (pc2 := 152) rfl rfl t81 (by omega) (by omega) (by decide) ?_
                intro v26 e26 r26 k26
                replace k26 : zGd v26 := k26
                refine z_callV (y2 := 228) (as := [_]) (rest := []) (pc2 := 155) rfl rfl rfl rfl t56 rfl ?_
                refine m_stands (L2 := L2) (S := S) (H := H) hT (by omega) (by omega) (by omega) (by omega) (by assumption) (by first | exact hL3 | (simp [zU]; exact hL3)) (by first | exact hS3 | (simp [zU]; exact hS3)) (by first | exact hH3 | (simp [zU]; exact hH3)) (by omega) (by omega) (fun Iw27 Gw27 Sw27 Hw27 lw27 aw27 bw27 cw27 dw27 fw27 ow27 qw27 => ?_)
                have nw27 : zNd Iw27 := zNd_eq (I := I2) hn3 (by first | exact ow27 33 (by decide) (by decide) (by decide) (by decide) | (rw [ow27 33 (by decide) (by decide) (by decide) (by decide)]; simp [zU])) (fun k => by first | exact qw27 k | (rw [qw27]; simp [zU]))
                replace lw27 := zLf_tr (I := I) (by repeat (first | exact zLf_rf _ | assumption | refine zLf_a ?_ (by decide) | refine zLf_f ?_ (by decide))) lw27
                show zB _ _ _ _ _ _ [] _ _
                refine z_iinc (lv2 := [(4, _), (6, _), (5, _), (0, _), (1, _), (2, _), (3, _)]) (pc2 := 158) rfl rfl rfl rfl rfl ?_
                refine z_goto (pc2 := 47) rfl rfl ?_
                refine z_lv (lv2 := [(0, _), (1, _), (2, _), (3, _), (4, _)]) ⟨rfl, rfl, rfl, rfl, rfl, trivial⟩ ?_
                exact ih _ _ _ _ _ _ (by assumption) (by assumption) (by assumption) (by omega) (by omega) (by omega) (by omega) (by assumption) (by omega) (by assumption) (by omega)
              ·
                refine z_iload (pc2 := 141) rfl rfl rfl ?_
                refine z_if_ne (t := 155) (pc2 := 144) rfl rfl rfl (by omega) (fun c28 => by exfalso; omega) (fun c28 => ?_)
                refine z_aload_n (pc2 := 145) rfl rfl rfl ?_
                refine z_aload_n (pc2 := 146) rfl rfl rfl ?_
                refine z_getP (pc2 := 149) rfl rfl rfl rfl t56 ?_
                intro p29 p29e p29k; replace p29k : p29 = some 81 := p29k; clear p29e; subst p29k
                refine z_iload (pc2 := 151) rfl rfl rfl ?_
                refine z_iald (pc2 := 152) rfl rfl t81 (by omega) (by omega) (by decide) ?_
                intro v30 e30 r30 k30
                replace k30 : zGd v30 := k30
                refine z_callV (y2 := 228) (as := [_]) (rest := []) (pc2 := 155) rfl rfl rfl rfl t56 rfl ?_
                refine m_stands (L2 := L2) (S := S) (H := H) hT (by omega) (by omega) (by omega) (by omega) (by assumption) (by first | exact hL3 | (simp [zU]; exact hL3)) (by first | exact hS3 | (simp [zU]; exact hS3)) (by first | exact hH3 | (simp [zU]; exact hH3)) (by omega) (by omega) (fun Iw31 Gw31 Sw31 Hw31 lw31 aw31 bw31 cw31 dw31 fw31 ow31 qw31 => ?_)
                have nw31 : zNd Iw31 := zNd_eq (I := I2) hn3 (by first | exact ow31 33 (by decide) (by decide) (by decide) (by decide) | (rw [ow31 33 (by decide) (by decide) (by decide) (by decide)]; simp [zU])) (fun k => by first | exact qw31 k | (rw [qw31]; simp [zU]))
                replace lw31 := zLf_tr (I := I) (by repeat (first | exact zLf_rf _ | assumption | refine zLf_a ?_ (by decide) | refine zLf_f ?_ (by decide))) lw31
                show zB _ _ _ _ _ _ [] _ _
                refine z_iinc (lv2 := [(4, _), (6, _), (5, _), (0, _), (1, _), (2, _), (3, _)]) (pc2 := 158) rfl rfl rfl rfl rfl ?_
                refine z_goto (pc2 := 47) rfl rfl ?_
                refine z_lv (lv2 := [(0, _), (1, _), (2, _), (3, _), (4, _)]) ⟨rfl, rfl, rfl, rfl, rfl, trivial⟩ ?_
                exact ih _ _ _ _ _ _ (by assumption) (by assumption) (by assumption) (by omega) (by omega) (by omega) (by omega) (by assumption) (by omega) (by assumption) (by omega)
            ·
              refine z_iload (pc2 := 111) rfl rfl rfl ?_
              refine z_if_eq (t := 155) (pc2 := 114) rfl rfl rfl (by omega) (fun c32 => ?_) (fun c32 => by exfalso; omega)
              refine z_iinc (lv2 := [(4, _), (6, _), (5, _), (0, _), (1, _), (2, _), (3, _)]) (pc2 := 158) rfl rfl rfl rfl rfl ?_
              refine z_goto (pc2 := 47) rfl rfl ?_
              refine z_lv (lv2 := [(0, _), (1, _), (2, _), (3, _), (4, _)]) ⟨rfl, rfl, rfl, rfl, rfl, trivial⟩ ?_
              exact ih _ _ _ _ _ _ (by assumption) (by assumption) (by assumption) (by omega) (by omega) (by omega) (by omega) (by assumption) (by omega) (by assumption) (by omega)
          ·
            refine z_aload_n (pc2 := 89) rfl rfl rfl ?_
            refine z_aload_n (pc2 := 90) rfl rfl rfl ?_
            refine z_getP (pc2 := 93) rfl rfl rfl rfl t56 ?_
            intro p33 p33e p33k; replace p33k : p33 = some 81 := p33k; clear p33e; subst p33k
            refine z_iload (pc2 := 95) rfl rfl rfl ?_
            refine z_iald (pc2 := 96) rfl rfl t81 (by omega) (by omega) (by decide) ?_
            intro v34 e34 r34 k34
            replace k34 : zGd v34 := k34
            refine z_callV (y2 := 229) (as := [_]) (rest := []) (pc2 := 99) rfl rfl rfl rfl t56 rfl ?_
            refine m_calls hT (zLo_tk hI2 hrl (by assumption) (by assumption) (by omega)) hn3 (fun Iw35 Gw35 lw35 nw35 ow35 => ?_)
            have h31w35 := (ow35 31 (by decide)).trans hL3
            have h36w35 := (ow35 36 (by decide)).trans hS3
            have h37w35 := (ow35 37 (by decide)).trans hH3
            replace lw35 := zLf_tr hI2 lw35
            show zB _ _ _ _ _ _ [] _ _
            refine z_goto (pc2 := 155) rfl rfl ?_
            refine z_iinc (lv2 := [(4, _), (6, _), (5, _), (0, _), (1, _), (2, _), (3, _)]) (pc2 := 158) rfl rfl rfl rfl rfl ?_
            refine z_goto (pc2 := 47) rfl rfl ?_
            refine z_lv (lv2 := [(0, _), (1, _), (2, _), (3, _), (4, _)]) ⟨rfl, rfl, rfl, rfl, rfl, trivial⟩ ?_
            exact ih _ _ _ _ _ _ (by assumption) (by assumption) (by assumption) (by omega) (by omega) (by omega) (by omega) (by assumption) (by omega) (by assumption) (by omega)
        ·
          refine z_iconst (pc2 := 66) rfl rfl ?_
          refine z_goto (pc2 := 70) rfl rfl ?_
          refine z_istore (lv2 := [(5, _), (0, _), (1, _), (2, _), (3, _), (4, _)]) (pc2 := 72) rfl rfl rfl rfl ?_
          refine z_aload_n (pc2 := 73) rfl rfl rfl ?_
          refine z_getP (pc2 := 76) rfl rfl rfl rfl t56 ?_
          intro p36 p36e p36k; replace p36k : p36 = some 80 := p36k; clear p36e; subst p36k
          refine z_iload (pc2 := 78) rfl rfl rfl ?_
          refine z_iald (pc2 := 79) rfl rfl t80 (by omega) (by omega) (by decide) ?_
          intro v37 e37 r37 k37
          clear k37
          refine z_istore (lv2 := [(6, _), (5, _), (0, _), (1, _), (2, _), (3, _), (4, _)]) (pc2 := 81) rfl rfl rfl rfl ?_
          refine z_iload (pc2 := 83) rfl rfl rfl ?_
          refine z_bipush (pc2 := 85) rfl rfl (by decide) ?_
          refine z_icmp_ne (t := 102) (pc2 := 88) rfl rfl rfl (by omega) (by omega) (fun c38 => ?_) (fun c38 => ?_)
          ·
            refine z_iload (pc2 := 104) rfl rfl rfl ?_
            refine z_bipush (pc2 := 106) rfl rfl (by decide) ?_
            refine z_icmp_ne (t := 133) (pc2 := 109) rfl rfl rfl (by omega) (by omega) (fun c39 => ?_) (fun c39 => ?_)
            ·
              refine z_iload (pc2 := 135) rfl rfl rfl ?_
              refine z_iconst (pc2 := 136) rfl rfl ?_
              refine z_icmp_ne (t := 144) (pc2 := 139) rfl rfl rfl (by omega) (by omega) (fun c40 => ?_) (fun c40 => ?_)
              ·
                refine z_aload_n (pc2 := 145) rfl rfl rfl ?_
                refine z_aload_n (pc2 := 146) rfl rfl rfl ?_
                refine z_getP (pc2 := 149) rfl rfl rfl rfl t56 ?_
                intro p41 p41e p41k; replace p41k : p41 = some 81 := p41k; clear p41e; subst p41k
                refine z_iload (pc2 := 151) rfl rfl rfl ?_
                refine z_iald (pc2 := 152) rfl rfl t81 (by omega) (by omega) (by decide) ?_
                intro v42 e42 r42 k42
                replace k42 : zGd v42 := k42
                refine z_callV (y2 := 228) (as := [_]) (rest := []) (pc2 := 155) rfl rfl rfl rfl t56 rfl ?_
                refine m_stands (L2 := L2) (S := S) (H := H) hT (by omega) (by omega) (by omega) (by omega) (by assumption) (by first | exact hL3 | (simp [zU]; exact hL3)) (by first | exact hS3 | (simp [zU]; exact hS3)) (by first | exact hH3 | (simp [zU]; exact hH3)) (by omega) (by omega) (fun Iw43 Gw43 Sw43 Hw43 lw43 aw43 bw43 cw43 dw43 fw43 ow43 qw43 => ?_)
                have nw43 : zNd Iw43 := zNd_eq (I := I2) hn3 (by first | exact ow43 33 (by decide) (by decide) (by decide) (by decide) | (rw [ow43 33 (by decide) (by decide) (by decide) (by decide)]; simp [zU])) (fun k => by first | exact qw43 k | (rw [qw43]; simp [zU]))
                replace lw43 := zLf_tr (I := I) (by repeat (first | exact zLf_rf _ | assumption | refine zLf_a ?_ (by decide) | refine zLf_f ?_ (by decide))) lw43
                show zB _ _ _ _ _ _ [] _ _
                refine z_iinc (lv2 := [(4, _), (6, _), (5, _), (0, _), (1, _), (2, _), (3, _)]) (pc2 := 158) rfl rfl rfl rfl rfl ?_
                refine z_goto (pc2 := 47) rfl rfl ?_
                refine z_lv (lv2 := [(0, _), (1, _), (2, _), (3, _), (4, _)]) ⟨rfl, rfl, rfl, rfl, rfl, trivial⟩ ?_
                exact ih _ _ _ _ _ _ (by assumption) (by assumption) (by assumption) (by omega) (by omega) (by omega) (by omega) (by assumption) (by omega) (by assumption) (by omega)
              ·
                refine z_iload (pc2 := 141) rfl rfl rfl ?_
                refine z_if_ne (t := 155) (pc2 := 144) rfl rfl rfl (by omega) (fun c44 => ?_) (fun c44 => by exfalso; omega)
                refine z_iinc (lv2 := [(4, _), (6, _), (5, _), (0, _), (1, _), (2, _), (3, _)]) (pc2 := 158) rfl rfl rfl rfl rfl ?_
                refine z_goto (pc2 := 47) rfl rfl ?_
                refine z_lv (lv2 := [(0, _), (1, _), (2, _), (3, _), (4, _)]) ⟨rfl, rfl, rfl, rfl, rfl, trivial⟩ ?_
                exact ih _ _ _ _ _ _ (by assumption) (by assumption) (by assumption) (by omega) (by omega) (by omega) (by omega) (by assumption) (by omega) (by assumption) (by omega)
            ·
              refine z_iload (pc2 := 111) rfl rfl rfl ?_
              refine z_if_eq (t := 155) (pc2 := 114) rfl rfl rfl (by omega) (fun c45 => by exfalso; omega) (fun c45 => ?_)
              refine z_aload_n (pc2 := 115) rfl rfl rfl ?_
              refine z_iconst (pc2 := 116) rfl rfl ?_
              refine z_putZ (pc2 := 119) rfl rfl rfl rfl rfl rfl t56 (by omega) (by show (0 : Int) ≤ _ ∧ _ ≤ 1; omega) ?_
              refine z_aload_n (pc2 := 120) rfl rfl rfl ?_
              refine z_aload_n (pc2 := 121) rfl rfl rfl ?_
              refine z_getP (pc2 := 124) rfl rfl rfl rfl t56 ?_
              intro p46 p46e p46k; replace p46k : p46 = some 81 := p46k; clear p46e; subst p46k
              refine z_iload (pc2 := 126) rfl rfl rfl ?_
              refine z_iald (pc2 := 127) rfl rfl t81 (by omega) (by omega) (by decide) ?_
              intro v47 e47 r47 k47
              replace k47 : zGd v47 := k47
              refine z_callV (y2 := 228) (as := [_]) (rest := []) (pc2 := 130) rfl rfl rfl rfl t56 rfl ?_
              refine m_stands (L2 := L2) (S := S) (H := H) hT (by omega) (by omega) (by omega) (by omega) (by assumption) (by first | exact hL3 | (simp [zU]; exact hL3)) (by first | exact hS3 | (simp [zU]; exact hS3)) (by first | exact hH3 | (simp [zU]; exact hH3)) (by omega) (by omega) (fun Iw48 Gw48 Sw48 Hw48 lw48 aw48 bw48 cw48 dw48 fw48 ow48 qw48 => ?_)
              have nw48 : zNd Iw48 := zNd_eq (I := I2) hn3 (by first | exact ow48 33 (by decide) (by decide) (by decide) (by decide) | (rw [ow48 33 (by decide) (by decide) (by decide) (by decide)]; simp [zU])) (fun k => by first | exact qw48 k | (rw [qw48]; simp [zU]))
              replace lw48 := zLf_tr (I := I) (by repeat (first | exact zLf_rf _ | assumption | refine zLf_a ?_ (by decide) | refine zLf_f ?_ (by decide))) lw48
              show zB _ _ _ _ _ _ [] _ _
              refine z_goto (pc2 := 155) rfl rfl ?_
              refine z_iinc (lv2 := [(4, _), (6, _), (5, _), (0, _), (1, _), (2, _), (3, _)]) (pc2 := 158) rfl rfl rfl rfl rfl ?_
              refine z_goto (pc2 := 47) rfl rfl ?_
              refine z_lv (lv2 := [(0, _), (1, _), (2, _), (3, _), (4, _)]) ⟨rfl, rfl, rfl, rfl, rfl, trivial⟩ ?_
              exact ih _ _ _ _ _ _ (by assumption) (by assumption) (by assumption) (by omega) (by omega) (by omega) (by omega) (by assumption) (by omega) (by assumption) (by omega)
          ·
            refine z_aload_n (pc2 := 89) rfl rfl rfl ?_
            refine z_aload_n (pc2 := 90) rfl rfl rfl ?_
            refine z_getP (pc2 := 93) rfl rfl rfl rfl t56 ?_
            intro p49 p49e p49k; replace p49k : p49 = some 81 := p49k; clear p49e; subst p49k
            refine z_iload (pc2 := 95) rfl rfl rfl ?_
            refine z_iald (pc2 := 96) rfl rfl t81 (by omega) (by omega) (by decide) ?_
            intro v50 e50 r50 k50
            replace k50 : zGd v50 := k50
            refine z_callV (y2 := 229) (as := [_]) (rest := []) (pc2 := 99) rfl rfl rfl rfl t56 rfl ?_
            refine m_calls hT (zLo_tk hI2 hrl (by assumption) (by assumption) (by omega)) hn3 (fun Iw51 Gw51 lw51 nw51 ow51 => ?_)
            have h31w51 := (ow51 31 (by decide)).trans hL3
            have h36w51 := (ow51 36 (by decide)).trans hS3
            have h37w51 := (ow51 37 (by decide)).trans hH3
            replace lw51 := zLf_tr hI2 lw51
            show zB _ _ _ _ _ _ [] _ _
            refine z_goto (pc2 := 155) rfl rfl ?_
            refine z_iinc (lv2 := [(4, _), (6, _), (5, _), (0, _), (1, _), (2, _), (3, _)]) (pc2 := 158) rfl rfl rfl rfl rfl ?_
            refine z_goto (pc2 := 47) rfl rfl ?_
            refine z_lv (lv2 := [(0, _), (1, _), (2, _), (3, _), (4, _)]) ⟨rfl, rfl, rfl, rfl, rfl, trivial⟩ ?_
            exact ih _ _ _ _ _ _ (by assumption) (by assumption) (by assumption) (by omega) (by omega) (by omega) (by omega) (by assumption) (by omega) (by assumption) (by omega)
set_option maxHeartbeats 8000000 in
theorem m_lineOf {L : Nat} {xs : Nat → Int32} {n sl : Nat} {T : Nat → zT} {I : Nat → Nat → Int} {P : Nat → Nat → Option Nat} {G : Nat → Nat → Int} {K : List zV → zH → Prop} {a b : Int} (hT : ∀ a, 56 ≤ a → a ≤ 90 → T a = zFix a) (ha : 0 ≤ a ∧ a ≤ 40) (hb : 0 ≤ b ∧ b ≤ 40) (hrl : zTok I) (hK : ∀ I2 G2 L2 S H, zLf I I2 → zNd I2 → I2 56 31 = L2 → I2 56 36 = S → I2 56 37 = H → (0 ≤ L2 ∧ L2 ≤ 40) → (0 ≤ S ∧ S ≤ L2) → (0 ≤ H ∧ H ≤ 3 * L2) → K [] (n, sl, T, I2, P, G2)) : zX zMd L xs 230 [.inr (.inl (some 56)), .inl a, .inl b] (n, sl, T, I, P, G) K := by
  have t56 : T 56 = (1, 12, [1]) := hT 56 (by decide) (by decide)
  refine z_inl ?_
  refine z_lv (lv2 := [(0, _), (1, _), (2, _)]) ⟨rfl, rfl, rfl, trivial⟩ ?_
  refine z_iload_n (pc2 := 1) rfl rfl rfl ?_
  refine z_aload_n (pc2 := 2) rfl rfl rfl ?_
  refine z_getI (pc2 := 5) 0 rfl rfl rfl rfl rfl t56 ?_
  intro v1 e1 r1 k1
  clear e1
  replace k1 : (0 : Int) ≤ v1 ∧ v1 ≤ 40 := k1; clear r1
  refine z_icmp_ge (t := 12) (pc2 := 8) rfl rfl rfl (by omega) (by omega) (fun c2 => ?_) (fun c2 => ?_)
  ·
    refine z_iconst (pc2 := 13) rfl rfl ?_
    refine z_istore_n (lv2 := [(3, _), (0, _), (1, _), (2, _)]) (pc2 := 14) rfl rfl rfl rfl ?_
    refine z_aload_n (pc2 := 15) rfl rfl rfl ?_
    refine z_iconst (pc2 := 16) rfl rfl ?_
    refine z_putI (pc2 := 19) rfl rfl rfl rfl rfl rfl t56 (by omega) (by show (0 : Int) ≤ _ ∧ _ ≤ 42; omega) ?_
    refine z_aload_n (pc2 := 20) rfl rfl rfl ?_
    refine z_iconst (pc2 := 21) rfl rfl ?_
    refine z_putI (pc2 := 24) rfl rfl rfl rfl rfl rfl t56 (by omega) (by show (0 : Int) ≤ _ ∧ _ ≤ 12; omega) ?_
    refine z_aload_n (pc2 := 25) rfl rfl rfl ?_
    refine z_iconst (pc2 := 26) rfl rfl ?_
    refine z_putI (pc2 := 29) rfl rfl rfl rfl rfl rfl t56 (by omega) True.intro ?_
    refine z_aload_n (pc2 := 30) rfl rfl rfl ?_
    refine z_iconst (pc2 := 31) rfl rfl ?_
    refine z_putI (pc2 := 34) rfl rfl rfl rfl rfl rfl t56 (by omega) (by show (0 : Int) ≤ _ ∧ _ ≤ 42; omega) ?_
    refine z_aload_n (pc2 := 35) rfl rfl rfl ?_
    refine z_iconst (pc2 := 36) rfl rfl ?_
    refine z_putI (pc2 := 39) rfl rfl rfl rfl rfl rfl t56 (by omega) (by show (0 : Int) ≤ _ ∧ _ ≤ 126; omega) ?_
    refine z_aload_n (pc2 := 40) rfl rfl rfl ?_
    refine z_iconst (pc2 := 41) rfl rfl ?_
    refine z_putZ (pc2 := 44) rfl rfl rfl rfl rfl rfl t56 (by omega) (by show (0 : Int) ≤ _ ∧ _ ≤ 1; omega) ?_
    refine z_iload_n (pc2 := 45) rfl rfl rfl ?_
    refine z_istore (lv2 := [(4, _), (3, _), (0, _), (1, _), (2, _)]) (pc2 := 47) rfl rfl rfl rfl ?_
    refine z_lv (lv2 := [(0, _), (1, _), (2, _), (3, _), (4, _)]) ⟨rfl, rfl, rfl, rfl, rfl, trivial⟩ ?_
    exact l_lineOf hT (by omega) (by omega) (by omega) hrl hK _ _ _ _ 0 0 0 (by simp [zU]) (by simp [zU]) (by simp [zU]) (by omega) (by omega) (by omega) (by omega) (by repeat (first | exact zLf_rf _ | assumption | refine zLf_a ?_ (by decide) | refine zLf_f ?_ (by decide))) (by omega) (zNd_0 (by simp [zU])) (Nat.lt_succ_self _)
  ·
    refine z_iconst (pc2 := 9) rfl rfl ?_
    refine z_goto (pc2 := 13) rfl rfl ?_
    refine z_istore_n (lv2 := [(3, _), (0, _), (1, _), (2, _)]) (pc2 := 14) rfl rfl rfl rfl ?_
    refine z_aload_n (pc2 := 15) rfl rfl rfl ?_
    refine z_iconst (pc2 := 16) rfl rfl ?_
    refine z_putI (pc2 := 19) rfl rfl rfl rfl rfl rfl t56 (by omega) (by show (0 : Int) ≤ _ ∧ _ ≤ 42; omega) ?_
    refine z_aload_n (pc2 := 20) rfl rfl rfl ?_
    refine z_iconst (pc2 := 21) rfl rfl ?_
    refine z_putI (pc2 := 24) rfl rfl rfl rfl rfl rfl t56 (by omega) (by show (0 : Int) ≤ _ ∧ _ ≤ 12; omega) ?_
    refine z_aload_n (pc2 := 25) rfl rfl rfl ?_
    refine z_iconst (pc2 := 26) rfl rfl ?_
    refine z_putI (pc2 := 29) rfl rfl rfl rfl rfl rfl t56 (by omega) True.intro ?_
    refine z_aload_n (pc2 := 30) rfl rfl rfl ?_
    refine z_iconst (pc2 := 31) rfl rfl ?_
    refine z_putI (pc2 := 34) rfl rfl rfl rfl rfl rfl t56 (by omega) (by show (0 : Int) ≤ _ ∧ _ ≤ 42; omega) ?_
    refine z_aload_n (pc2 := 35) rfl rfl rfl ?_
    refine z_iconst (pc2 := 36) rfl rfl ?_
    refine z_putI (pc2 := 39) rfl rfl rfl rfl rfl rfl t56 (by omega) (by show (0 : Int) ≤ _ ∧ _ ≤ 126; omega) ?_
    refine z_aload_n (pc2 := 40) rfl rfl rfl ?_
    refine z_iconst (pc2 := 41) rfl rfl ?_
    refine z_putZ (pc2 := 44) rfl rfl rfl rfl rfl rfl t56 (by omega) (by show (0 : Int) ≤ _ ∧ _ ≤ 1; omega) ?_
    refine z_iload_n (pc2 := 45) rfl rfl rfl ?_
    refine z_istore (lv2 := [(4, _), (3, _), (0, _), (1, _), (2, _)]) (pc2 := 47) rfl rfl rfl rfl ?_
    refine z_lv (lv2 := [(0, _), (1, _), (2, _), (3, _), (4, _)]) ⟨rfl, rfl, rfl, rfl, rfl, trivial⟩ ?_
    exact l_lineOf hT (by omega) (by omega) (by omega) hrl hK _ _ _ _ 0 0 0 (by simp [zU]) (by simp [zU]) (by simp [zU]) (by omega) (by omega) (by omega) (by omega) (by repeat (first | exact zLf_rf _ | assumption | refine zLf_a ?_ (by decide) | refine zLf_f ?_ (by decide))) (by omega) (zNd_0 (by simp [zU])) (Nat.lt_succ_self _)
