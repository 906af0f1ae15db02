/-! the reference: pages are filled -/
set_option maxHeartbeats 8000000 in
theorem l_fillPages2 {L : Nat} {xs : Nat → Int32} {n sl : Nat} {T : Nat → zT} {I : Nat → Nat → Int} {P : Nat → Nat → Option Nat} {K : List zV → zH → Prop} {x w q a : Int} (hT : ∀ a, 56 ≤ a → a ≤ 90 → T a = zFix a) (hx : 1 ≤ x ∧ x ≤ 60) (hw : 1 ≤ w ∧ w ≤ 89) (hq : 0 ≤ q ∧ q ≤ 1) (ha : 0 ≤ a ∧ a ≤ 88) (haw : a < w) (hq3 : I 56 3 = q) (hht : zHt q w I) (hE : ∀ (I2 G2 : Nat → Nat → Int) (a2 : Int), zPq I I2 → zVi a2 I2 → a < a2 → a2 ≤ w → zB zMd L xs 251 2 [(0, .inr (.inl (some 56))), (1, .inl x), (2, .inl w), (3, .inl a2)] [] (n, sl, T, I2, P, G2) K) (hK : True) (m : Nat) : ∀ (I2 : Nat → Nat → Int) (G2 : Nat → Nat → Int), ∀ (s z H2 : Int), I2 56 44 = H2 → 1 ≤ s ∧ s ≤ 60 → 0 ≤ z ∧ z ≤ 1 → 0 ≤ H2 ∧ H2 ≤ 10000 → zPq I I2 → s ≤ H2 ∧ H2 ≤ 111 * (s + 1) ∧ a + s ≤ w → (z = 1 → H2 ≤ 111 * s) → zNp I2 → zVi a I2 → ((w - a - s).toNat * 2 + z).toNat < m → zB zMd L xs 251 22 [(0, .inr (.inl (some 56))), (1, .inl x), (2, .inl w), (3, .inl a), (4, .inl s), (5, .inl z)] [] (n, sl, T, I2, P, G2) K := by
  have t56 : T 56 = (1, 12, [1]) := hT 56 (by decide) (by decide)
  have t89 : T 89 = (2, 0, [100, 14]) := hT 89 (by decide) (by decide)
  induction m with
  | zero => intro I2 G2 s z H2 hH3 hs hz hH2 hI2 hb3 hz3 hn3 hv3 hm; omega
  | succ m ih =>
    intro I2 G2 s z H2 hH3 hs hz hH2 hI2 hb3 hz3 hn3 hv3 hm
    refine z_iload (pc2 := 24) rfl rfl rfl ?_
    refine z_if_eq (t := 76) (pc2 := 27) rfl rfl rfl (by omega) (fun c1 => ?_) (fun c1 => ?_)
    ·
      refine z_aload_n (pc2 := 77) rfl rfl rfl ?_
      refine z_iload_n (pc2 := 78) rfl rfl rfl ?_
      refine z_iload (pc2 := 80) rfl rfl rfl ?_
      refine z_iadd (pc2 := 81) rfl rfl ?_
      refine z_iconst (pc2 := 82) rfl rfl ?_
      refine z_isub (pc2 := 83) rfl rfl ?_
      refine z_callV (y2 := 249) (as := [_]) (rest := []) (pc2 := 86) rfl rfl rfl rfl t56 rfl ?_
      refine m_isOrphan hT (by omega) (fun w2 w2r => ?_)
      show zB _ _ _ _ _ _ [_] _ _
      refine z_if_ne (t := 108) (pc2 := 89) rfl rfl rfl (by omega) (fun c3 => ?_) (fun c3 => ?_)
      ·
        refine z_iconst (pc2 := 109) rfl rfl ?_
        refine z_goto (pc2 := 113) rfl rfl ?_
        refine z_istore (lv2 := [(6, _), (0, _), (1, _), (2, _), (3, _), (4, _), (5, _)]) (pc2 := 115) rfl rfl rfl rfl ?_
        refine z_iload (pc2 := 117) rfl rfl rfl ?_
        refine z_iload (pc2 := 119) rfl rfl rfl ?_
        refine z_if_eq (t := 132) (pc2 := 122) rfl rfl rfl (by omega) (fun c4 => by exfalso; omega) (fun c4 => ?_)
        refine z_iload (pc2 := 124) rfl rfl rfl ?_
        refine z_iconst (pc2 := 125) rfl rfl ?_
        refine z_icmp_le (t := 132) (pc2 := 128) rfl rfl rfl (by omega) (by omega) (fun c5 => ?_) (fun c5 => ?_)
        ·
          refine z_iconst (pc2 := 133) rfl rfl ?_
          refine z_isub (pc2 := 134) rfl rfl ?_
          refine z_istore (lv2 := [(4, _), (6, _), (0, _), (1, _), (2, _), (3, _), (5, _)]) (pc2 := 136) rfl rfl rfl rfl ?_
          refine z_aload_n (pc2 := 137) rfl rfl rfl ?_
          refine z_getP (pc2 := 140) rfl rfl rfl rfl t56 ?_
          intro p6 p6e p6k; replace p6k : p6 = some 89 := p6k; clear p6e; subst p6k
          refine z_iload_n (pc2 := 141) rfl rfl rfl ?_
          refine z_iload (pc2 := 143) rfl rfl rfl ?_
          refine z_iast (pc2 := 144) rfl rfl t89 (by omega) (by omega) (by decide) (by omega) (by show (0 : Int) ≤ _ ∧ _ ≤ 100; omega) ?_
          refine z_iload_n (pc2 := 145) rfl rfl rfl ?_
          refine z_iload (pc2 := 147) rfl rfl rfl ?_
          refine z_iadd (pc2 := 148) rfl rfl ?_
          refine z_istore_n (lv2 := [(3, _), (4, _), (6, _), (0, _), (1, _), (2, _), (5, _)]) (pc2 := 149) rfl rfl rfl rfl ?_
          refine z_goto (pc2 := 2) rfl rfl ?_
          refine z_lv (lv2 := [(0, _), (1, _), (2, _), (3, _)]) ⟨rfl, rfl, rfl, rfl, trivial⟩ ?_
          exact hE _ _ _ (by repeat (first | exact zPq_rf _ | assumption | refine zPq_r ?_ | refine zPq_f ?_ (by decide))) (zVi_s (by assumption) (by omega) (by omega)) (by omega) (by omega)
        ·
          refine z_iconst (pc2 := 129) rfl rfl ?_
          refine z_goto (pc2 := 133) rfl rfl ?_
          refine z_isub (pc2 := 134) rfl rfl ?_
          refine z_istore (lv2 := [(4, _), (6, _), (0, _), (1, _), (2, _), (3, _), (5, _)]) (pc2 := 136) rfl rfl rfl rfl ?_
          refine z_aload_n (pc2 := 137) rfl rfl rfl ?_
          refine z_getP (pc2 := 140) rfl rfl rfl rfl t56 ?_
          intro p7 p7e p7k; replace p7k : p7 = some 89 := p7k; clear p7e; subst p7k
          refine z_iload_n (pc2 := 141) rfl rfl rfl ?_
          refine z_iload (pc2 := 143) rfl rfl rfl ?_
          refine z_iast (pc2 := 144) rfl rfl t89 (by omega) (by omega) (by decide) (by omega) (by show (0 : Int) ≤ _ ∧ _ ≤ 100; omega) ?_
          refine z_iload_n (pc2 := 145) rfl rfl rfl ?_
          refine z_iload (pc2 := 147) rfl rfl rfl ?_
          refine z_iadd (pc2 := 148) rfl rfl ?_
          refine z_istore_n (lv2 := [(3, _), (4, _), (6, _), (0, _), (1, _), (2, _), (5, _)]) (pc2 := 149) rfl rfl rfl rfl ?_
          refine z_goto (pc2 := 2) rfl rfl ?_
          refine z_lv (lv2 := [(0, _), (1, _), (2, _), (3, _)]) ⟨rfl, rfl, rfl, rfl, trivial⟩ ?_
          exact hE _ _ _ (by repeat (first | exact zPq_rf _ | assumption | refine zPq_r ?_ | refine zPq_f ?_ (by decide))) (zVi_s (by assumption) (by omega) (by omega)) (by omega) (by omega)
      ·
        refine z_iload_n (pc2 := 90) rfl rfl rfl ?_
        refine z_iload (pc2 := 92) rfl rfl rfl ?_
        refine z_iadd (pc2 := 93) rfl rfl ?_
        refine z_iload_n (pc2 := 94) rfl rfl rfl ?_
        refine z_icmp_ge (t := 112) (pc2 := 97) rfl rfl rfl (by omega) (by omega) (fun c8 => ?_) (fun c8 => ?_)
        ·
          refine z_iconst (pc2 := 113) rfl rfl ?_
          refine z_istore (lv2 := [(6, _), (0, _), (1, _), (2, _), (3, _), (4, _), (5, _)]) (pc2 := 115) rfl rfl rfl rfl ?_
          refine z_iload (pc2 := 117) rfl rfl rfl ?_
          refine z_iload (pc2 := 119) rfl rfl rfl ?_
          refine z_if_eq (t := 132) (pc2 := 122) rfl rfl rfl (by omega) (fun c9 => ?_) (fun c9 => by exfalso; omega)
          refine z_iconst (pc2 := 133) rfl rfl ?_
          refine z_isub (pc2 := 134) rfl rfl ?_
          refine z_istore (lv2 := [(4, _), (6, _), (0, _), (1, _), (2, _), (3, _), (5, _)]) (pc2 := 136) rfl rfl rfl rfl ?_
          refine z_aload_n (pc2 := 137) rfl rfl rfl ?_
          refine z_getP (pc2 := 140) rfl rfl rfl rfl t56 ?_
          intro p10 p10e p10k; replace p10k : p10 = some 89 := p10k; clear p10e; subst p10k
          refine z_iload_n (pc2 := 141) rfl rfl rfl ?_
          refine z_iload (pc2 := 143) rfl rfl rfl ?_
          refine z_iast (pc2 := 144) rfl rfl t89 (by omega) (by omega) (by decide) (by omega) (by show (0 : Int) ≤ _ ∧ _ ≤ 100; omega) ?_
          refine z_iload_n (pc2 := 145) rfl rfl rfl ?_
          refine z_iload (pc2 := 147) rfl rfl rfl ?_
          refine z_iadd (pc2 := 148) rfl rfl ?_
          refine z_istore_n (lv2 := [(3, _), (4, _), (6, _), (0, _), (1, _), (2, _), (5, _)]) (pc2 := 149) rfl rfl rfl rfl ?_
          refine z_goto (pc2 := 2) rfl rfl ?_
          refine z_lv (lv2 := [(0, _), (1, _), (2, _), (3, _)]) ⟨rfl, rfl, rfl, rfl, trivial⟩ ?_
          exact hE _ _ _ (by repeat (first | exact zPq_rf _ | assumption | refine zPq_r ?_ | refine zPq_f ?_ (by decide))) (zVi_s (by assumption) (by omega) (by omega)) (by omega) (by omega)
        ·
          refine z_aload_n (pc2 := 98) rfl rfl rfl ?_
          refine z_iload_n (pc2 := 99) rfl rfl rfl ?_
          refine z_iload (pc2 := 101) rfl rfl rfl ?_
          refine z_iadd (pc2 := 102) rfl rfl ?_
          refine z_callV (y2 := 248) (as := [_]) (rest := []) (pc2 := 105) rfl rfl rfl rfl t56 rfl ?_
          refine m_isWidow hT (by omega) (fun w11 w11r => ?_)
          show zB _ _ _ _ _ _ [_] _ _
          refine z_if_eq (t := 112) (pc2 := 108) rfl rfl rfl (by omega) (fun c12 => ?_) (fun c12 => ?_)
          ·
            refine z_iconst (pc2 := 113) rfl rfl ?_
            refine z_istore (lv2 := [(6, _), (0, _), (1, _), (2, _), (3, _), (4, _), (5, _)]) (pc2 := 115) rfl rfl rfl rfl ?_
            refine z_iload (pc2 := 117) rfl rfl rfl ?_
            refine z_iload (pc2 := 119) rfl rfl rfl ?_
            refine z_if_eq (t := 132) (pc2 := 122) rfl rfl rfl (by omega) (fun c13 => ?_) (fun c13 => by exfalso; omega)
            refine z_iconst (pc2 := 133) rfl rfl ?_
            refine z_isub (pc2 := 134) rfl rfl ?_
            refine z_istore (lv2 := [(4, _), (6, _), (0, _), (1, _), (2, _), (3, _), (5, _)]) (pc2 := 136) rfl rfl rfl rfl ?_
            refine z_aload_n (pc2 := 137) rfl rfl rfl ?_
            refine z_getP (pc2 := 140) rfl rfl rfl rfl t56 ?_
            intro p14 p14e p14k; replace p14k : p14 = some 89 := p14k; clear p14e; subst p14k
            refine z_iload_n (pc2 := 141) rfl rfl rfl ?_
            refine z_iload (pc2 := 143) rfl rfl rfl ?_
            refine z_iast (pc2 := 144) rfl rfl t89 (by omega) (by omega) (by decide) (by omega) (by show (0 : Int) ≤ _ ∧ _ ≤ 100; omega) ?_
            refine z_iload_n (pc2 := 145) rfl rfl rfl ?_
            refine z_iload (pc2 := 147) rfl rfl rfl ?_
            refine z_iadd (pc2 := 148) rfl rfl ?_
            refine z_istore_n (lv2 := [(3, _), (4, _), (6, _), (0, _), (1, _), (2, _), (5, _)]) (pc2 := 149) rfl rfl rfl rfl ?_
            refine z_goto (pc2 := 2) rfl rfl ?_
            refine z_lv (lv2 := [(0, _), (1, _), (2, _), (3, _)]) ⟨rfl, rfl, rfl, rfl, trivial⟩ ?_
            exact hE _ _ _ (by repeat (first | exact zPq_rf _ | assumption | refine zPq_r ?_ | refine zPq_f ?_ (by decide))) (zVi_s (by assumption) (by omega) (by omega)) (by omega) (by omega)
          ·
            refine z_iconst (pc2 := 109) rfl rfl ?_
            refine z_goto (pc2 := 113) rfl rfl ?_
            refine z_istore (lv2 := [(6, _), (0, _), (1, _), (2, _), (3, _), (4, _), (5, _)]) (pc2 := 115) rfl rfl rfl rfl ?_
            refine z_iload (pc2 := 117) rfl rfl rfl ?_
            refine z_iload (pc2 := 119) rfl rfl rfl ?_
            refine z_if_eq (t := 132) (pc2 := 122) rfl rfl rfl (by omega) (fun c15 => by exfalso; omega) (fun c15 => ?_)
            refine z_iload (pc2 := 124) rfl rfl rfl ?_
            refine z_iconst (pc2 := 125) rfl rfl ?_
            refine z_icmp_le (t := 132) (pc2 := 128) rfl rfl rfl (by omega) (by omega) (fun c16 => ?_) (fun c16 => ?_)
            ·
              refine z_iconst (pc2 := 133) rfl rfl ?_
              refine z_isub (pc2 := 134) rfl rfl ?_
              refine z_istore (lv2 := [(4, _), (6, _), (0, _), (1, _), (2, _), (3, _), (5, _)]) (pc2 := 136) rfl rfl rfl rfl ?_
              refine z_aload_n (pc2 := 137) rfl rfl rfl ?_
              refine z_getP (pc2 := 140) rfl rfl rfl rfl t56 ?_
              intro p17 p17e p17k; replace p17k : p17 = some 89 := p17k; clear p17e; subst p17k
              refine z_iload_n (pc2 := 141) rfl rfl rfl ?_
              refine z_iload (pc2 := 143) rfl rfl rfl ?_
              refine z_iast (pc2 := 144) rfl rfl t89 (by omega) (by omega) (by decide) (by omega) (by show (0 : Int) ≤ _ ∧ _ ≤ 100; omega) ?_
              refine z_iload_n (pc2 := 145) rfl rfl rfl ?_
              refine z_iload (pc2 := 147) rfl rfl rfl ?_
              refine z_iadd (pc2 := 148) rfl rfl ?_
              refine z_istore_n (lv2 := [(3, _), (4, _), (6, _), (0, _), (1, _), (2, _), (5, _)]) (pc2 := 149) rfl rfl rfl rfl ?_
              refine z_goto (pc2 := 2) rfl rfl ?_
              refine z_lv (lv2 := [(0, _), (1, _), (2, _), (3, _)]) ⟨rfl, rfl, rfl, rfl, trivial⟩ ?_
              exact hE _ _ _ (by repeat (first | exact zPq_rf _ | assumption | refine zPq_r ?_ | refine zPq_f ?_ (by decide))) (zVi_s (by assumption) (by omega) (by omega)) (by omega) (by omega)
            ·
              refine z_iconst (pc2 := 129) rfl rfl ?_
              refine z_goto (pc2 := 133) rfl rfl ?_
              refine z_isub (pc2 := 134) rfl rfl ?_
              refine z_istore (lv2 := [(4, _), (6, _), (0, _), (1, _), (2, _), (3, _), (5, _)]) (pc2 := 136) rfl rfl rfl rfl ?_
              refine z_aload_n (pc2 := 137) rfl rfl rfl ?_
              refine z_getP (pc2 := 140) rfl rfl rfl rfl t56 ?_
              intro p18 p18e p18k; replace p18k : p18 = some 89 := p18k; clear p18e; subst p18k
              refine z_iload_n (pc2 := 141) rfl rfl rfl ?_
              refine z_iload (pc2 := 143) rfl rfl rfl ?_
              refine z_iast (pc2 := 144) rfl rfl t89 (by omega) (by omega) (by decide) (by omega) (by show (0 : Int) ≤ _ ∧ _ ≤ 100; omega) ?_
              refine z_iload_n (pc2 := 145) rfl rfl rfl ?_
              refine z_iload (pc2 := 147) rfl rfl rfl ?_
              refine z_iadd (pc2 := 148) rfl rfl ?_
              refine z_istore_n (lv2 := [(3, _), (4, _), (6, _), (0, _), (1, _), (2, _), (5, _)]) (pc2 := 149) rfl rfl rfl rfl ?_
              refine z_goto (pc2 := 2) rfl rfl ?_
              refine z_lv (lv2 := [(0, _), (1, _), (2, _), (3, _)]) ⟨rfl, rfl, rfl, rfl, trivial⟩ ?_
              exact hE _ _ _ (by repeat (first | exact zPq_rf _ | assumption | refine zPq_r ?_ | refine zPq_f ?_ (by decide))) (zVi_s (by assumption) (by omega) (by omega)) (by omega) (by omega)
    ·
      refine z_iload_n (pc2 := 28) rfl rfl rfl ?_
      refine z_iload (pc2 := 30) rfl rfl rfl ?_
      refine z_iadd (pc2 := 31) rfl rfl ?_
      refine z_iload_n (pc2 := 32) rfl rfl rfl ?_
      refine z_icmp_ge (t := 76) (pc2 := 35) rfl rfl rfl (by omega) (by omega) (fun c19 => ?_) (fun c19 => ?_)
      ·
        refine z_aload_n (pc2 := 77) rfl rfl rfl ?_
        refine z_iload_n (pc2 := 78) rfl rfl rfl ?_
        refine z_iload (pc2 := 80) rfl rfl rfl ?_
        refine z_iadd (pc2 := 81) rfl rfl ?_
        refine z_iconst (pc2 := 82) rfl rfl ?_
        refine z_isub (pc2 := 83) rfl rfl ?_
        refine z_callV (y2 := 249) (as := [_]) (rest := []) (pc2 := 86) rfl rfl rfl rfl t56 rfl ?_
        refine m_isOrphan hT (by omega) (fun w20 w20r => ?_)
        show zB _ _ _ _ _ _ [_] _ _
        refine z_if_ne (t := 108) (pc2 := 89) rfl rfl rfl (by omega) (fun c21 => ?_) (fun c21 => ?_)
        ·
          refine z_iconst (pc2 := 109) rfl rfl ?_
          refine z_goto (pc2 := 113) rfl rfl ?_
          refine z_istore (lv2 := [(6, _), (0, _), (1, _), (2, _), (3, _), (4, _), (5, _)]) (pc2 := 115) rfl rfl rfl rfl ?_
          refine z_iload (pc2 := 117) rfl rfl rfl ?_
          refine z_iload (pc2 := 119) rfl rfl rfl ?_
          refine z_if_eq (t := 132) (pc2 := 122) rfl rfl rfl (by omega) (fun c22 => by exfalso; omega) (fun c22 => ?_)
          refine z_iload (pc2 := 124) rfl rfl rfl ?_
          refine z_iconst (pc2 := 125) rfl rfl ?_
          refine z_icmp_le (t := 132) (pc2 := 128) rfl rfl rfl (by omega) (by omega) (fun c23 => ?_) (fun c23 => ?_)
          ·
            refine z_iconst (pc2 := 133) rfl rfl ?_
            refine z_isub (pc2 := 134) rfl rfl ?_
            refine z_istore (lv2 := [(4, _), (6, _), (0, _), (1, _), (2, _), (3, _), (5, _)]) (pc2 := 136) rfl rfl rfl rfl ?_
            refine z_aload_n (pc2 := 137) rfl rfl rfl ?_
            refine z_getP (pc2 := 140) rfl rfl rfl rfl t56 ?_
            intro p24 p24e p24k; replace p24k : p24 = some 89 := p24k; clear p24e; subst p24k
            refine z_iload_n (pc2 := 141) rfl rfl rfl ?_
            refine z_iload (pc2 := 143) rfl rfl rfl ?_
            refine z_iast (pc2 := 144) rfl rfl t89 (by omega) (by omega) (by decide) (by omega) (by show (0 : Int) ≤ _ ∧ _ ≤ 100; omega) ?_
            refine z_iload_n (pc2 := 145) rfl rfl rfl ?_
            refine z_iload (pc2 := 147) rfl rfl rfl ?_
            refine z_iadd (pc2 := 148) rfl rfl ?_
            refine z_istore_n (lv2 := [(3, _), (4, _), (6, _), (0, _), (1, _), (2, _), (5, _)]) (pc2 := 149) rfl rfl rfl rfl ?_
            refine z_goto (pc2 := 2) rfl rfl ?_
            refine z_lv (lv2 := [(0, _), (1, _), (2, _), (3, _)]) ⟨rfl, rfl, rfl, rfl, trivial⟩ ?_
            exact hE _ _ _ (by repeat (first | exact zPq_rf _ | assumption | refine zPq_r ?_ | refine zPq_f ?_ (by decide))) (zVi_s (by assumption) (by omega) (by omega)) (by omega) (by omega)
          ·
            refine z_iconst (pc2 := 129) rfl rfl ?_
            refine z_goto (pc2 := 133) rfl rfl ?_
            refine z_isub (pc2 := 134) rfl rfl ?_
            refine z_istore (lv2 := [(4, _), (6, _), (0, _), (1, _), (2, _), (3, _), (5, _)]) (pc2 := 136) rfl rfl rfl rfl ?_
            refine z_aload_n (pc2 := 137) rfl rfl rfl ?_
            refine z_getP (pc2 := 140) rfl rfl rfl rfl t56 ?_
            intro p25 p25e p25k; replace p25k : p25 = some 89 := p25k; clear p25e; subst p25k
            refine z_iload_n (pc2 := 141) rfl rfl rfl ?_
            refine z_iload (pc2 := 143) rfl rfl rfl ?_
            refine z_iast (pc2 := 144) rfl rfl t89 (by omega) (by omega) (by decide) (by omega) (by show (0 : Int) ≤ _ ∧ _ ≤ 100; omega) ?_
            refine z_iload_n (pc2 := 145) rfl rfl rfl ?_
            refine z_iload (pc2 := 147) rfl rfl rfl ?_
            refine z_iadd (pc2 := 148) rfl rfl ?_
            refine z_istore_n (lv2 := [(3, _), (4, _), (6, _), (0, _), (1, _), (2, _), (5, _)]) (pc2 := 149) rfl rfl rfl rfl ?_
            refine z_goto (pc2 := 2) rfl rfl ?_
            refine z_lv (lv2 := [(0, _), (1, _), (2, _), (3, _)]) ⟨rfl, rfl, rfl, rfl, trivial⟩ ?_
            exact hE _ _ _ (by repeat (first | exact zPq_rf _ | assumption | refine zPq_r ?_ | refine zPq_f ?_ (by decide))) (zVi_s (by assumption) (by omega) (by omega)) (by omega) (by omega)
        ·
          refine z_iload_n (pc2 := 90) rfl rfl rfl ?_
          refine z_iload (pc2 := 92) rfl rfl rfl ?_
          refine z_iadd (pc2 := 93) rfl rfl ?_
          refine z_iload_n (pc2 := 94) rfl rfl rfl ?_
          refine z_icmp_ge (t := 112) (pc2 := 97) rfl rfl rfl (by omega) (by omega) (fun c26 => ?_) (fun c26 => ?_)
          ·
            refine z_iconst (pc2 := 113) rfl rfl ?_
            refine z_istore (lv2 := [(6, _), (0, _), (1, _), (2, _), (3, _), (4, _), (5, _)]) (pc2 := 115) rfl rfl rfl rfl ?_
            refine z_iload (pc2 := 117) rfl rfl rfl ?_
            refine z_iload (pc2 := 119) rfl rfl rfl ?_
            refine z_if_eq (t := 132) (pc2 := 122) rfl rfl rfl (by omega) (fun c27 => ?_) (fun c27 => by exfalso; omega)
            refine z_iconst (pc2 := 133) rfl rfl ?_
            refine z_isub (pc2 := 134) rfl rfl ?_
            refine z_istore (lv2 := [(4, _), (6, _), (0, _), (1, _), (2, _), (3, _), (5, _)]) (pc2 := 136) rfl rfl rfl rfl ?_
            refine z_aload_n (pc2 := 137) rfl rfl rfl ?_
            refine z_getP (pc2 := 140) rfl rfl rfl rfl t56 ?_
            intro p28 p28e p28k; replace p28k : p28 = some 89 := p28k; clear p28e; subst p28k
            refine z_iload_n (pc2 := 141) rfl rfl rfl ?_
            refine z_iload (pc2 := 143) rfl rfl rfl ?_
            refine z_iast (pc2 := 144) rfl rfl t89 (by omega) (by omega) (by decide) (by omega) (by show (0 : Int) ≤ _ ∧ _ ≤ 100; omega) ?_
            refine z_iload_n (pc2 := 145) rfl rfl rfl ?_
            refine z_iload (pc2 := 147) rfl rfl rfl ?_
            refine z_iadd (pc2 := 148) rfl rfl ?_
            refine z_istore_n (lv2 := [(3, _), (4, _), (6, _), (0, _), (1, _), (2, _), (5, _)]) (pc2 := 149) rfl rfl rfl rfl ?_
            refine z_goto (pc2 := 2) rfl rfl ?_
            refine z_lv (lv2 := [(0, _), (1, _), (2, _), (3, _)]) ⟨rfl, rfl, rfl, rfl, trivial⟩ ?_
            exact hE _ _ _ (by repeat (first | exact zPq_rf _ | assumption | refine zPq_r ?_ | refine zPq_f ?_ (by decide))) (zVi_s (by assumption) (by omega) (by omega)) (by omega) (by omega)
          ·
            refine z_aload_n (pc2 := 98) rfl rfl rfl ?_
            refine z_iload_n (pc2 := 99) rfl rfl rfl ?_
            refine z_iload (pc2 := 101) rfl rfl rfl ?_
            refine z_iadd (pc2 := 102) rfl rfl ?_
            refine z_callV (y2 := 248) (as := [_]) (rest := []) (pc2 := 105) rfl rfl rfl rfl t56 rfl ?_
            refine m_isWidow hT (by omega) (fun w29 w29r => ?_)
            show zB _ _ _ _ _ _ [_] _ _
            refine z_if_eq (t := 112) (pc2 := 108) rfl rfl rfl (by omega) (fun c30 => ?_) (fun c30 => ?_)
            ·
              refine z_iconst (pc2 := 113) rfl rfl ?_
              refine z_istore (lv2 := [(6, _), (0, _), (1, _), (2, _), (3, _), (4, _), (5, _)]) (pc2 := 115) rfl rfl rfl rfl ?_
              refine z_iload (pc2 := 117) rfl rfl rfl ?_
              refine z_iload (pc2 := 119) rfl rfl rfl ?_
              refine z_if_eq (t := 132) (pc2 := 122) rfl rfl rfl (by omega) (fun c31 => ?_) (fun c31 => by exfalso; omega)
              refine z_iconst (pc2 := 133) rfl rfl ?_
              refine z_isub (pc2 := 134) rfl rfl ?_
              refine z_istore (lv2 := [(4, _), (6, _), (0, _), (1, _), (2, _), (3, _), (5, _)]) (pc2 := 136) rfl rfl rfl rfl ?_
              refine z_aload_n (pc2 := 137) rfl rfl rfl ?_
              refine z_getP (pc2 := 140) rfl rfl rfl rfl t56 ?_
              intro p32 p32e p32k; replace p32k : p32 = some 89 := p32k; clear p32e; subst p32k
              refine z_iload_n (pc2 := 141) rfl rfl rfl ?_
              refine z_iload (pc2 := 143) rfl rfl rfl ?_
              refine z_iast (pc2 := 144) rfl rfl t89 (by omega) (by omega) (by decide) (by omega) (by show (0 : Int) ≤ _ ∧ _ ≤ 100; omega) ?_
              refine z_iload_n (pc2 := 145) rfl rfl rfl ?_
              refine z_iload (pc2 := 147) rfl rfl rfl ?_
              refine z_iadd (pc2 := 148) rfl rfl ?_
              refine z_istore_n (lv2 := [(3, _), (4, _), (6, _), (0, _), (1, _), (2, _), (5, _)]) (pc2 := 149) rfl rfl rfl rfl ?_
              refine z_goto (pc2 := 2) rfl rfl ?_
              refine z_lv (lv2 := [(0, _), (1, _), (2, _), (3, _)]) ⟨rfl, rfl, rfl, rfl, trivial⟩ ?_
              exact hE _ _ _ (by repeat (first | exact zPq_rf _ | assumption | refine zPq_r ?_ | refine zPq_f ?_ (by decide))) (zVi_s (by assumption) (by omega) (by omega)) (by omega) (by omega)
            ·
              refine z_iconst (pc2 := 109) rfl rfl ?_
              refine z_goto (pc2 := 113) rfl rfl ?_
              refine z_istore (lv2 := [(6, _), (0, _), (1, _), (2, _), (3, _), (4, _), (5, _)]) (pc2 := 115) rfl rfl rfl rfl ?_
              refine z_iload (pc2 := 117) rfl rfl rfl ?_
              refine z_iload (pc2 := 119) rfl rfl rfl ?_
              refine z_if_eq (t := 132) (pc2 := 122) rfl rfl rfl (by omega) (fun c33 => by exfalso; omega) (fun c33 => ?_)
              refine z_iload (pc2 := 124) rfl rfl rfl ?_
              refine z_iconst (pc2 := 125) rfl rfl ?_
              refine z_icmp_le (t := 132) (pc2 := 128) rfl rfl rfl (by omega) (by omega) (fun c34 => ?_) (fun c34 => ?_)
              ·
                refine z_iconst (pc2 := 133) rfl rfl ?_
                refine z_isub (pc2 := 134) rfl rfl ?_
                refine z_istore (lv2 := [(4, _), (6, _), (0, _), (1, _), (2, _), (3, _), (5, _)]) (pc2 := 136) rfl rfl rfl rfl ?_
                refine z_aload_n (pc2 := 137) rfl rfl rfl ?_
                refine z_getP (pc2 := 140) rfl rfl rfl rfl t56 ?_
                intro p35 p35e p35k; replace p35k : p35 = some 89 := p35k; clear p35e; subst p35k
                refine z_iload_n (pc2 := 141) rfl rfl rfl ?_
                refine z_iload (pc2 := 143) rfl rfl rfl ?_
                refine z_iast (pc2 := 144) rfl rfl t89 (by omega) (by omega) (by decide) (by omega) (by show (0 : Int) ≤ _ ∧ _ ≤ 100; omega) ?_
                refine z_iload_n (pc2 := 145) rfl rfl rfl ?_
                refine z_iload (pc2 := 147) rfl rfl rfl ?_
                refine z_iadd (pc2 := 148) rfl rfl ?_
                refine z_istore_n (lv2 := [(3, _), (4, _), (6, _), (0, _), (1, _), (2, _), (5, _)]) (pc2 := 149) rfl rfl rfl rfl ?_
                refine z_goto (pc2 := 2) rfl rfl ?_
                refine z_lv (lv2 := [(0, _), (1, _), (2, _), (3, _)]) ⟨rfl, rfl, rfl, rfl, trivial⟩ ?_
                exact hE _ _ _ (by repeat (first | exact zPq_rf _ | assumption | refine zPq_r ?_ | refine zPq_f ?_ (by decide))) (zVi_s (by assumption) (by omega) (by omega)) (by omega) (by omega)
              ·
                refine z_iconst (pc2 := 129) rfl rfl ?_
                refine z_goto (pc2 := 133) rfl rfl ?_
                refine z_isub (pc2 := 134) rfl rfl ?_
                refine z_istore (lv2 := [(4, _), (6, _), (0, _), (1, _), (2, _), (3, _), (5, _)]) (pc2 := 136) rfl rfl rfl rfl ?_
                refine z_aload_n (pc2 := 137) rfl rfl rfl ?_
                refine z_getP (pc2 := 140) rfl rfl rfl rfl t56 ?_
                intro p36 p36e p36k; replace p36k : p36 = some 89 := p36k; clear p36e; subst p36k
                refine z_iload_n (pc2 := 141) rfl rfl rfl ?_
                refine z_iload (pc2 := 143) rfl rfl rfl ?_
                refine z_iast (pc2 := 144) rfl rfl t89 (by omega) (by omega) (by decide) (by omega) (by show (0 : Int) ≤ _ ∧ _ ≤ 100; omega) ?_
                refine z_iload_n (pc2 := 145) rfl rfl rfl ?_
                refine z_iload (pc2 := 147) rfl rfl rfl ?_
                refine z_iadd (pc2 := 148) rfl rfl ?_
                refine z_istore_n (lv2 := [(3, _), (4, _), (6, _), (0, _), (1, _), (2, _), (5, _)]) (pc2 := 149) rfl rfl rfl rfl ?_
                refine z_goto (pc2 := 2) rfl rfl ?_
                refine z_lv (lv2 := [(0, _), (1, _), (2, _), (3, _)]) ⟨rfl, rfl, rfl, rfl, trivial⟩ ?_
                exact hE _ _ _ (by repeat (first | exact zPq_rf _ | assumption | refine zPq_r ?_ | refine zPq_f ?_ (by decide))) (zVi_s (by assumption) (by omega) (by omega)) (by omega) (by omega)
      ·
        refine z_aload_n (pc2 := 36) rfl rfl rfl ?_
        refine z_iload_n (pc2 := 37) rfl rfl rfl ?_
        refine z_iload (pc2 := 39) rfl rfl rfl ?_
        refine z_iadd (pc2 := 40) rfl rfl ?_
        refine z_callV (y2 := 247) (as := [_]) (rest := []) (pc2 := 43) rfl rfl rfl rfl t56 rfl ?_
        refine m_pageTakes (q := q) (H := H2) hT (by omega) (by omega) (by omega) (zPq_k hI2 (by decide) hq3) hH3 hn3 (zHt_q hht hI2 (a + s) (by omega) (by omega)) (fun Iw37 Gw37 Hw37 pw37 nw37 hw37 bw37 => ?_)
        have xw37 := zPq_tr hI2 (zPq_p pw37); have vw37 := zVi_p hv3 pw37
        show zB _ _ _ _ _ _ [] _ _
        refine z_aload_n (pc2 := 44) rfl rfl rfl ?_
        refine z_getI (pc2 := 47) 0 rfl rfl rfl rfl rfl t56 ?_
        intro v38 e38 r38 k38
        replace k38 : (0 : Int) ≤ v38 ∧ v38 ≤ 20000 := k38; clear r38
        replace e38 : Hw37 = v38 := by rw [e38]; first | exact hw37 | exact Eq.symm hw37 | (simp [zU]; first | done | exact hw37 | exact Eq.symm hw37 | omega)
        subst e38
        refine z_iload_n (pc2 := 48) rfl rfl rfl ?_
        refine z_icmp_gt (t := 55) (pc2 := 51) rfl rfl rfl (by omega) (by omega) (fun c39 => ?_) (fun c39 => ?_)
        ·
          refine z_iconst (pc2 := 56) rfl rfl ?_
          refine z_istore (lv2 := [(5, _), (0, _), (1, _), (2, _), (3, _), (4, _)]) (pc2 := 58) rfl rfl rfl rfl ?_
          refine z_iload (pc2 := 60) rfl rfl rfl ?_
          refine z_iload (pc2 := 62) rfl rfl rfl ?_
          refine z_if_eq (t := 69) (pc2 := 65) rfl rfl rfl (by omega) (fun c40 => ?_) (fun c40 => by exfalso; omega)
          refine z_iconst (pc2 := 70) rfl rfl ?_
          refine z_iadd (pc2 := 71) rfl rfl ?_
          refine z_istore (lv2 := [(4, _), (5, _), (0, _), (1, _), (2, _), (3, _)]) (pc2 := 73) rfl rfl rfl rfl ?_
          refine z_goto (pc2 := 22) rfl rfl ?_
          refine z_lv (lv2 := [(0, _), (1, _), (2, _), (3, _), (4, _), (5, _)]) ⟨rfl, rfl, rfl, rfl, rfl, rfl, trivial⟩ ?_
          exact ih _ _ _ _ _ (by assumption) (by omega) (by omega) (by omega) (by assumption) (by omega) (by omega) (by assumption) (by assumption) (by omega)
        ·
          refine z_iconst (pc2 := 52) rfl rfl ?_
          refine z_goto (pc2 := 56) rfl rfl ?_
          refine z_istore (lv2 := [(5, _), (0, _), (1, _), (2, _), (3, _), (4, _)]) (pc2 := 58) rfl rfl rfl rfl ?_
          refine z_iload (pc2 := 60) rfl rfl rfl ?_
          refine z_iload (pc2 := 62) rfl rfl rfl ?_
          refine z_if_eq (t := 69) (pc2 := 65) rfl rfl rfl (by omega) (fun c41 => by exfalso; omega) (fun c41 => ?_)
          refine z_iconst (pc2 := 66) rfl rfl ?_
          refine z_goto (pc2 := 70) rfl rfl ?_
          refine z_iadd (pc2 := 71) rfl rfl ?_
          refine z_istore (lv2 := [(4, _), (5, _), (0, _), (1, _), (2, _), (3, _)]) (pc2 := 73) rfl rfl rfl rfl ?_
          refine z_goto (pc2 := 22) rfl rfl ?_
          refine z_lv (lv2 := [(0, _), (1, _), (2, _), (3, _), (4, _), (5, _)]) ⟨rfl, rfl, rfl, rfl, rfl, rfl, trivial⟩ ?_
          exact ih _ _ _ _ _ (by assumption) (by omega) (by omega) (by omega) (by assumption) (by omega) (by omega) (by assumption) (by assumption) (by omega)
set_option maxHeartbeats 8000000 in
theorem l_fillPages1 {L : Nat} {xs : Nat → Int32} {n sl : Nat} {T : Nat → zT} {I : Nat → Nat → Int} {P : Nat → Nat → Option Nat} {K : List zV → zH → Prop} {x w q : Int} (hT : ∀ a, 56 ≤ a → a ≤ 90 → T a = zFix a) (hx : 1 ≤ x ∧ x ≤ 60) (hw : 1 ≤ w ∧ w ≤ 89) (hq : 0 ≤ q ∧ q ≤ 1) (hq3 : I 56 3 = q) (hht : zHt q w I) (hK : ∀ I2 G2, zPq I I2 → zVi w I2 → K [] (n, sl, T, I2, P, G2)) (m : Nat) : ∀ (I2 : Nat → Nat → Int) (G2 : Nat → Nat → Int), ∀ (a : Int), 0 ≤ a ∧ a ≤ 89 → zPq I I2 → a ≤ w → zVi a I2 → (w - a).toNat < m → zB zMd L xs 251 2 [(0, .inr (.inl (some 56))), (1, .inl x), (2, .inl w), (3, .inl a)] [] (n, sl, T, I2, P, G2) K := by
  have t56 : T 56 = (1, 12, [1]) := hT 56 (by decide) (by decide)
  induction m with
  | zero => intro I2 G2 a ha hI2 hb3 hv3 hm; omega
  | succ m ih =>
    intro I2 G2 a ha hI2 hb3 hv3 hm
    refine z_iload_n (pc2 := 3) rfl rfl rfl ?_
    refine z_iload_n (pc2 := 4) rfl rfl rfl ?_
    refine z_icmp_ge (t := 152) (pc2 := 7) rfl rfl rfl (by omega) (by omega) (fun c1 => ?_) (fun c1 => ?_)
    ·
      refine z_ret rfl rfl ?_
      exact hK _ _ hI2 (by rw [show w = a by omega]; exact hv3)
    ·
      refine z_aload_n (pc2 := 8) rfl rfl rfl ?_
      refine z_callV (y2 := 246) (as := []) (rest := []) (pc2 := 11) rfl rfl rfl rfl t56 rfl ?_
      refine z_inl ?_
      refine z_lv (lv2 := [(0, _)]) ⟨rfl, trivial⟩ ?_
      refine z_aload_n (pc2 := 1) rfl rfl rfl ?_
      refine z_iconst (pc2 := 2) rfl rfl ?_
      refine z_putI (pc2 := 5) rfl rfl rfl rfl rfl rfl t56 (by omega) (by show (0 : Int) ≤ _ ∧ _ ≤ 20000; omega) ?_
      refine z_aload_n (pc2 := 6) rfl rfl rfl ?_
      refine z_iconst (pc2 := 7) rfl rfl ?_
      refine z_putI (pc2 := 10) rfl rfl rfl rfl rfl rfl t56 (by omega) (by show (0 : Int) ≤ _ ∧ _ ≤ 12; omega) ?_
      refine z_ret rfl rfl ?_
      show zB _ _ _ _ _ _ [] _ _
      refine z_aload_n (pc2 := 12) rfl rfl rfl ?_
      refine z_iload_n (pc2 := 13) rfl rfl rfl ?_
      refine z_callV (y2 := 247) (as := [_]) (rest := []) (pc2 := 16) rfl rfl rfl rfl t56 rfl ?_
      have x0 : zPq I (zU (zU I2 56 44 0) 56 45 0) := (by repeat (first | exact zPq_rf _ | assumption | refine zPq_r ?_ | refine zPq_f ?_ (by decide)))
      refine m_pageTakes (q := q) (H := 0) hT (by omega) (by omega) (by omega) (zPq_k x0 (by decide) hq3) (by simp [zU]) (zNp_0 (by simp [zU])) (zHt_q hht x0 a (by omega) (by omega)) (fun Iw2 Gw2 Hw2 pw2 nw2 hw2 bw2 => ?_)
      have xw2 := zPq_tr x0 (zPq_p pw2); have vw2 := zVi_p (zVi_f (zVi_f hv3)) pw2
      show zB _ _ _ _ _ _ [] _ _
      refine z_iconst (pc2 := 17) rfl rfl ?_
      refine z_istore (lv2 := [(4, _), (0, _), (1, _), (2, _), (3, _)]) (pc2 := 19) rfl rfl rfl rfl ?_
      refine z_iconst (pc2 := 20) rfl rfl ?_
      refine z_istore (lv2 := [(5, _), (4, _), (0, _), (1, _), (2, _), (3, _)]) (pc2 := 22) rfl rfl rfl rfl ?_
      refine z_lv (lv2 := [(0, _), (1, _), (2, _), (3, _), (4, _), (5, _)]) ⟨rfl, rfl, rfl, rfl, rfl, rfl, trivial⟩ ?_
      exact l_fillPages2 (q := q) hT (by omega) (by omega) (by omega) (by omega) (by omega) hq3 hht (fun I3 G3 a3 h1 h2 h3 h4 => ih I3 G3 a3 (by omega) h1 h4 h2 (by omega)) trivial _ _ _ _ _ _ hw2 (by omega) (by omega) (by omega) xw2 (by omega) (by omega) nw2 vw2 (Nat.lt_succ_self _)
set_option maxHeartbeats 8000000 in
theorem m_fillPages {L : Nat} {xs : Nat → Int32} {n sl : Nat} {T : Nat → zT} {I : Nat → Nat → Int} {P : Nat → Nat → Option Nat} {G : Nat → Nat → Int} {K : List zV → zH → Prop} {x w q : Int} (hT : ∀ a, 56 ≤ a → a ≤ 90 → T a = zFix a) (hx : 1 ≤ x ∧ x ≤ 60) (hw : 1 ≤ w ∧ w ≤ 89) (hq : 0 ≤ q ∧ q ≤ 1) (hq3 : I 56 3 = q) (hht : zHt q w I) (hK : ∀ I2 G2, zPq I I2 → zVi w I2 → K [] (n, sl, T, I2, P, G2)) : zX zMd L xs 251 [.inr (.inl (some 56)), .inl x, .inl w] (n, sl, T, I, P, G) K := by
  refine z_inl ?_
  refine z_lv (lv2 := [(0, _), (1, _), (2, _)]) ⟨rfl, rfl, rfl, trivial⟩ ?_
  refine z_iconst (pc2 := 1) rfl rfl ?_
  refine z_istore_n (lv2 := [(3, _), (0, _), (1, _), (2, _)]) (pc2 := 2) rfl rfl rfl rfl ?_
  refine z_lv (lv2 := [(0, _), (1, _), (2, _), (3, _)]) ⟨rfl, rfl, rfl, rfl, trivial⟩ ?_
  exact l_fillPages1 hT (q := q) (by omega) (by omega) (by omega) hq3 hht hK _ _ _ _ (by omega) (zPq_rf _) (by omega) zVi_0 (Nat.lt_succ_self _)
