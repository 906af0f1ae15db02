/-! the class: pages are weighed, a page is made -/
set_option maxHeartbeats 8000000 in
theorem cl_Pager_weighPageFrom {L : Nat} {xs : Nat → Int32} {n sl : Nat} {T : Nat → zT} {I : Nat → Nat → Int} {P : Nat → Nat → Option Nat} {G : Nat → Nat → Int} {K : List zV → zH → Prop} {a N : Int} {x rn : Nat} (hn : 90 ≤ n) (hC : ∀ a, 1 ≤ a → a ≤ 55 → T a = zFixC a) (ha : 0 ≤ a ∧ a ≤ 39) (hN : 1 ≤ N ∧ N ≤ 40) (ix : x = 23 ∨ x = 30 ∨ x = 42 ∨ x = 49) (haN : a < N) (hB : zGb N a G) (hfo : P 14 3 = some x) (hnh : P 14 4 = some rn) (hrn : rn = 22 ∨ rn = 41) (trn : T rn = (2, 0, [12, 12])) (hpre : ∀ j : Nat, (j : Int) < N → ∃ q, P (x + 4) j = some q) (hN : I x 6 = N) (hK : ∀ I2 G2, zWp a I I2 → (∀ b j, ¬ (b = 15 ∧ j = a.toNat) → G2 b j = G b j) → (-3000000000 * (N - a) ≤ G2 15 a.toNat ∧ G2 15 a.toNat ≤ 3000000000 * (N - a)) → (1 ≤ I2 16 a.toNat ∧ I2 16 a.toNat ≤ N - a) → K [] (n, sl, T, I2, P, G2)) (m : Nat) : ∀ (I2 : Nat → Nat → Int) (G2 : Nat → Nat → Int), ∀ (k : Int), 1 ≤ k ∧ k ≤ 41 → zWp a I I2 → (∀ b j, ¬ (b = 15 ∧ j = a.toNat) → G2 b j = G b j) → a + 1 ≤ k ∧ k ≤ N + 1 → ((k = a + 1 ∧ G2 15 a.toNat = 1000000000000) ∨ (a + 1 < k ∧ (-3000000000 * (N - a) ≤ G2 15 a.toNat ∧ G2 15 a.toNat ≤ 3000000000 * (N - a)) ∧ 1 ≤ I2 16 a.toNat ∧ I2 16 a.toNat ≤ N - a)) → I2 14 7 = zPop (I2 14 8) → (41 - k).toNat < m → zB zMd L xs 56 17 [(0, .inr (.inl (some 14))), (1, .inl a), (2, .inl k)] [] (n, sl, T, I2, P, G2) K := by
  have t14 : T 14 = (1, 6, [1]) := hC 14 (by decide) (by decide)
  have t15 : T 15 = (2, 1, [41, 0]) := hC 15 (by decide) (by decide)
  have t16 : T 16 = (2, 0, [41, 23]) := hC 16 (by decide) (by decide)
  have tx := zFl_t hC ix
  induction m with
  | zero => intro I2 G2 k hk hI2 hG hb3 hst hpop hm; omega
  | succ m ih =>
    intro I2 G2 k hk hI2 hG hb3 hst hpop hm
    refine z_iload_n (pc2 := 18) rfl rfl rfl ?_
    refine z_aload_n (pc2 := 19) rfl rfl rfl ?_
    refine z_getP (pc2 := 22) rfl rfl rfl rfl t14 ?_
    intro p1 p1e p1k
    clear p1k; replace p1e : p1 = some x := by rw [p1e]; first | exact hfo | exact Eq.symm hfo | (simp [zU]; first | done | exact hfo | exact Eq.symm hfo | omega)
    subst p1e
    refine z_getI (pc2 := 25) 0 rfl rfl rfl rfl rfl tx.1 ?_
    intro v2 e2 r2 k2
    replace k2 : (0 : Int) ≤ v2 ∧ v2 ≤ 89 := k2
    replace e2 : N = v2 := by rw [e2]; first | exact ((hI2 x 6 (by omega) (by omega) (by omega)).trans hN) | exact Eq.symm ((hI2 x 6 (by omega) (by omega) (by omega)).trans hN) | (simp [zU]; first | done | exact ((hI2 x 6 (by omega) (by omega) (by omega)).trans hN) | exact Eq.symm ((hI2 x 6 (by omega) (by omega) (by omega)).trans hN) | omega)
    subst e2
    refine z_icmp_gt (t := 109) (pc2 := 28) rfl rfl rfl (by omega) (by omega) (fun c3 => ?_) (fun c3 => ?_)
    ·
      refine z_ret rfl rfl ?_
      exact hK _ _ hI2 hG (by omega) (by omega)
    ·
      refine z_aload_n (pc2 := 29) rfl rfl rfl ?_
      refine z_aload_n (pc2 := 30) rfl rfl rfl ?_
      refine z_getP (pc2 := 33) rfl rfl rfl rfl t14 ?_
      intro p4 p4e p4k
      clear p4k; replace p4e : p4 = some x := by rw [p4e]; first | exact hfo | exact Eq.symm hfo | (simp [zU]; first | done | exact hfo | exact Eq.symm hfo | omega)
      subst p4e
      refine z_getP (pc2 := 36) rfl rfl rfl rfl tx.1 ?_
      intro p5 p5e p5k
      replace p5k : p5 = some (x + 4) := p5k; clear p5e; subst p5k
      refine z_iload_n (pc2 := 37) rfl rfl rfl ?_
      refine z_iconst (pc2 := 38) rfl rfl ?_
      refine z_isub (pc2 := 39) rfl rfl ?_
      refine z_aald (pc2 := 40) rfl rfl tx.2.2.2.2.1 rfl (by omega) (by omega) (by omega) ?_
      intro p6 p6e p6k
      rcases p6k with rfl | ⟨q7, rfl, q79, tq7⟩
      ·
        exact (zNn hpre p6e (by omega)).elim
      ·
        replace tq7 : _ = ((1, 4, [1]) : zT) := tq7
        refine zB_le tq7 trivial (fun q7l => ?_)
        refine z_callV (y2 := 62) (as := [_]) (rest := []) (pc2 := 43) rfl rfl rfl rfl t14 rfl ?_
        refine c_Pager_add hn hC tq7 (by omega) hnh hrn trn hpop (fun I8 f8 h8 => ?_)
        replace f8 := zPgr_tr (I := I2) (by repeat (first | exact zPgr_rf | assumption | refine zPgr_f ?_ (by decide) | refine zPgr_n ?_)) f8
        show zB _ _ _ _ _ _ [] _ _
        refine z_aload_n (pc2 := 44) rfl rfl rfl ?_
        refine z_getI (pc2 := 47) 0 rfl rfl rfl rfl rfl t14 ?_
        intro v9 e9 r9 k9
        clear k9
        clear e9
        refine z_aload_n (pc2 := 48) rfl rfl rfl ?_
        refine z_getI (pc2 := 51) 0 rfl rfl rfl rfl rfl t14 ?_
        intro v10 e10 r10 k10
        clear k10
        clear e10
        refine z_icmp_le (t := 62) (pc2 := 54) rfl rfl rfl (by omega) (by omega) (fun c11 => ?_) (fun c11 => ?_)
        ·
          refine z_aload_n (pc2 := 63) rfl rfl rfl ?_
          refine z_iload_n (pc2 := 64) rfl rfl rfl ?_
          refine z_iload_n (pc2 := 65) rfl rfl rfl ?_
          refine z_callV (y2 := 57) (as := [_, _]) (rest := []) (pc2 := 68) rfl rfl rfl rfl t14 rfl ?_
          refine c_Pager_badnessOf (N := N) hn hC (by omega) (by omega) (by omega) ix (by omega) hfo hnh hrn trn hpre ((f8 x 6 (by omega) (by omega)).trans ((hI2 x 6 (by omega) (by omega) (by omega)).trans hN)) (fun g12 g12r => ?_)
          show zB _ _ _ _ _ _ [_] _ _
          refine z_aload_n (pc2 := 69) rfl rfl rfl ?_
          refine z_getP (pc2 := 72) rfl rfl rfl rfl t14 ?_
          intro p13 p13e p13k
          replace p13k : p13 = some 15 := p13k; clear p13e; subst p13k
          refine z_iload_n (pc2 := 73) rfl rfl rfl ?_
          refine z_lald (pc2 := 74) rfl rfl t15 (by omega) (by omega) (by omega) ?_
          intro g14 g14e
          have g14b := hB k.toNat (by omega) (by omega)
          rw [← hG 15 k.toNat (by omega), ← g14e, show ((k.toNat : Nat) : Int) = k by omega] at g14b
          refine z_ladd (pc2 := 75) rfl rfl ?_
          refine z_lstore_n (lv2 := [(3, _), (0, _), (1, _), (2, _)]) (pc2 := 76) rfl rfl rfl rfl ?_
          refine z_lload_n (pc2 := 77) rfl rfl rfl ?_
          refine z_aload_n (pc2 := 78) rfl rfl rfl ?_
          refine z_getP (pc2 := 81) rfl rfl rfl rfl t14 ?_
          intro p15 p15e p15k
          replace p15k : p15 = some 15 := p15k; clear p15e; subst p15k
          refine z_iload_n (pc2 := 82) rfl rfl rfl ?_
          refine z_lald (pc2 := 83) rfl rfl t15 (by omega) (by omega) (by omega) ?_
          intro g16 g16e
          have g16b : -130000000000 ≤ g16 ∧ g16 ≤ 1000000000000 := by rw [g16e]; omega
          refine z_lcmp (pc2 := 84) rfl rfl (by omega) (by omega) (fun c17 c17a c17b c17c => ?_)
          refine z_if_ge (t := 103) (pc2 := 87) rfl rfl rfl (by omega) (fun c18 => ?_) (fun c18 => ?_)
          ·
            refine z_iinc (lv2 := [(2, _), (3, _), (0, _), (1, _)]) (pc2 := 106) rfl rfl rfl rfl rfl ?_
            refine z_goto (pc2 := 17) rfl rfl ?_
            refine z_lv (lv2 := [(0, _), (1, _), (2, _)]) ⟨rfl, rfl, rfl, trivial⟩ ?_
            exact ih _ _ _ (by omega) (zWp_a hI2 f8) hG (by omega) (by have e9 := f8 16 a.toNat (by omega) (by omega); rcases hst with h | h; exfalso; omega; exact Or.inr ⟨by omega, h.2.1, by rw [e9]; exact h.2.2.1, by rw [e9]; exact h.2.2.2⟩) h8 (by omega)
          ·
            refine z_aload_n (pc2 := 88) rfl rfl rfl ?_
            refine z_getP (pc2 := 91) rfl rfl rfl rfl t14 ?_
            intro p19 p19e p19k
            replace p19k : p19 = some 15 := p19k; clear p19e; subst p19k
            refine z_iload_n (pc2 := 92) rfl rfl rfl ?_
            refine z_lload_n (pc2 := 93) rfl rfl rfl ?_
            refine z_last (pc2 := 94) rfl rfl t15 (by omega) (by omega) (by omega) ?_
            refine z_aload_n (pc2 := 95) rfl rfl rfl ?_
            refine z_getP (pc2 := 98) rfl rfl rfl rfl t14 ?_
            intro p20 p20e p20k
            replace p20k : p20 = some 16 := p20k; clear p20e; subst p20k
            refine z_iload_n (pc2 := 99) rfl rfl rfl ?_
            refine z_iload_n (pc2 := 100) rfl rfl rfl ?_
            refine z_iload_n (pc2 := 101) rfl rfl rfl ?_
            refine z_isub (pc2 := 102) rfl rfl ?_
            refine z_iast (pc2 := 103) rfl rfl t16 (by omega) (by omega) (by omega) (by omega) (by show (0 : Int) ≤ _ ∧ _ ≤ 40; omega) ?_
            refine z_iinc (lv2 := [(2, _), (3, _), (0, _), (1, _)]) (pc2 := 106) rfl rfl rfl rfl rfl ?_
            refine z_goto (pc2 := 17) rfl rfl ?_
            refine z_lv (lv2 := [(0, _), (1, _), (2, _)]) ⟨rfl, rfl, rfl, trivial⟩ ?_
            exact ih _ _ _ (by omega) (zWp_u (zWp_a hI2 f8)) (zG_u hG) (by omega) (Or.inr ⟨by omega, ⟨by rw [zU_same]; omega, by rw [zU_same]; omega⟩, by rw [zU_same]; omega, by rw [zU_same]; omega⟩) (by rw [zU_row _ _ _ (by decide)]; exact h8) (by omega)
        ·
          refine z_iload_n (pc2 := 55) rfl rfl rfl ?_
          refine z_iload_n (pc2 := 56) rfl rfl rfl ?_
          refine z_iconst (pc2 := 57) rfl rfl ?_
          refine z_iadd (pc2 := 58) rfl rfl ?_
          refine z_icmp_le (t := 62) (pc2 := 61) rfl rfl rfl (by omega) (by omega) (fun c21 => ?_) (fun c21 => ?_)
          ·
            refine z_aload_n (pc2 := 63) rfl rfl rfl ?_
            refine z_iload_n (pc2 := 64) rfl rfl rfl ?_
            refine z_iload_n (pc2 := 65) rfl rfl rfl ?_
            refine z_callV (y2 := 57) (as := [_, _]) (rest := []) (pc2 := 68) rfl rfl rfl rfl t14 rfl ?_
            refine c_Pager_badnessOf (N := N) hn hC (by omega) (by omega) (by omega) ix (by omega) hfo hnh hrn trn hpre ((f8 x 6 (by omega) (by omega)).trans ((hI2 x 6 (by omega) (by omega) (by omega)).trans hN)) (fun g22 g22r => ?_)
            show zB _ _ _ _ _ _ [_] _ _
            refine z_aload_n (pc2 := 69) rfl rfl rfl ?_
            refine z_getP (pc2 := 72) rfl rfl rfl rfl t14 ?_
            intro p23 p23e p23k
            replace p23k : p23 = some 15 := p23k; clear p23e; subst p23k
            refine z_iload_n (pc2 := 73) rfl rfl rfl ?_
            refine z_lald (pc2 := 74) rfl rfl t15 (by omega) (by omega) (by omega) ?_
            intro g24 g24e
            have g24b := hB k.toNat (by omega) (by omega)
            rw [← hG 15 k.toNat (by omega), ← g24e, show ((k.toNat : Nat) : Int) = k by omega] at g24b
            refine z_ladd (pc2 := 75) rfl rfl ?_
            refine z_lstore_n (lv2 := [(3, _), (0, _), (1, _), (2, _)]) (pc2 := 76) rfl rfl rfl rfl ?_
            refine z_lload_n (pc2 := 77) rfl rfl rfl ?_
            refine z_aload_n (pc2 := 78) rfl rfl rfl ?_
            refine z_getP (pc2 := 81) rfl rfl rfl rfl t14 ?_
            intro p25 p25e p25k
            replace p25k : p25 = some 15 := p25k; clear p25e; subst p25k
            refine z_iload_n (pc2 := 82) rfl rfl rfl ?_
            refine z_lald (pc2 := 83) rfl rfl t15 (by omega) (by omega) (by omega) ?_
            intro g26 g26e
            have g26b : -130000000000 ≤ g26 ∧ g26 ≤ 1000000000000 := by rw [g26e]; omega
            refine z_lcmp (pc2 := 84) rfl rfl (by omega) (by omega) (fun c27 c27a c27b c27c => ?_)
            refine z_if_ge (t := 103) (pc2 := 87) rfl rfl rfl (by omega) (fun c28 => ?_) (fun c28 => ?_)
            ·
              refine z_iinc (lv2 := [(2, _), (3, _), (0, _), (1, _)]) (pc2 := 106) rfl rfl rfl rfl rfl ?_
              refine z_goto (pc2 := 17) rfl rfl ?_
              refine z_lv (lv2 := [(0, _), (1, _), (2, _)]) ⟨rfl, rfl, rfl, trivial⟩ ?_
              exact ih _ _ _ (by omega) (zWp_a hI2 f8) hG (by omega) (by have e9 := f8 16 a.toNat (by omega) (by omega); rcases hst with h | h; exfalso; omega; exact Or.inr ⟨by omega, h.2.1, by rw [e9]; exact h.2.2.1, by rw [e9]; exact h.2.2.2⟩) h8 (by omega)
            ·
              refine z_aload_n (pc2 := 88) rfl rfl rfl ?_
              refine z_getP (pc2 := 91) rfl rfl rfl rfl t14 ?_
              intro p29 p29e p29k
              replace p29k : p29 = some 15 := p29k; clear p29e; subst p29k
              refine z_iload_n (pc2 := 92) rfl rfl rfl ?_
              refine z_lload_n (pc2 := 93) rfl rfl rfl ?_
              refine z_last (pc2 := 94) rfl rfl t15 (by omega) (by omega) (by omega) ?_
              refine z_aload_n (pc2 := 95) rfl rfl rfl ?_
              refine z_getP (pc2 := 98) rfl rfl rfl rfl t14 ?_
              intro p30 p30e p30k
              replace p30k : p30 = some 16 := p30k; clear p30e; subst p30k
              refine z_iload_n (pc2 := 99) rfl rfl rfl ?_
              refine z_iload_n (pc2 := 100) rfl rfl rfl ?_
              refine z_iload_n (pc2 := 101) rfl rfl rfl ?_
              refine z_isub (pc2 := 102) rfl rfl ?_
              refine z_iast (pc2 := 103) rfl rfl t16 (by omega) (by omega) (by omega) (by omega) (by show (0 : Int) ≤ _ ∧ _ ≤ 40; omega) ?_
              refine z_iinc (lv2 := [(2, _), (3, _), (0, _), (1, _)]) (pc2 := 106) rfl rfl rfl rfl rfl ?_
              refine z_goto (pc2 := 17) rfl rfl ?_
              refine z_lv (lv2 := [(0, _), (1, _), (2, _)]) ⟨rfl, rfl, rfl, trivial⟩ ?_
              exact ih _ _ _ (by omega) (zWp_u (zWp_a hI2 f8)) (zG_u hG) (by omega) (Or.inr ⟨by omega, ⟨by rw [zU_same]; omega, by rw [zU_same]; omega⟩, by rw [zU_same]; omega, by rw [zU_same]; omega⟩) (by rw [zU_row _ _ _ (by decide)]; exact h8) (by omega)
          ·
            refine z_ret rfl rfl ?_
            exact hK _ _ (zWp_a hI2 f8) hG (by omega) (by rw [f8 16 a.toNat (by omega) (by omega)]; omega)
set_option maxHeartbeats 8000000 in
theorem c_Pager_weighPageFrom {L : Nat} {xs : Nat → Int32} {n sl : Nat} {T : Nat → zT} {I : Nat → Nat → Int} {P : Nat → Nat → Option Nat} {G : Nat → Nat → Int} {K : List zV → zH → Prop} {a N : Int} {x rn : Nat} (hn : 90 ≤ n) (hC : ∀ a, 1 ≤ a → a ≤ 55 → T a = zFixC a) (ha : 0 ≤ a ∧ a ≤ 39) (hN : 1 ≤ N ∧ N ≤ 40) (ix : x = 23 ∨ x = 30 ∨ x = 42 ∨ x = 49) (haN : a < N) (hB : zGb N a G) (hfo : P 14 3 = some x) (hnh : P 14 4 = some rn) (hrn : rn = 22 ∨ rn = 41) (trn : T rn = (2, 0, [12, 12])) (hpre : ∀ j : Nat, (j : Int) < N → ∃ q, P (x + 4) j = some q) (hN : I x 6 = N) (hK : ∀ I2 G2, zWp a I I2 → (∀ b j, ¬ (b = 15 ∧ j = a.toNat) → G2 b j = G b j) → (-3000000000 * (N - a) ≤ G2 15 a.toNat ∧ G2 15 a.toNat ≤ 3000000000 * (N - a)) → (1 ≤ I2 16 a.toNat ∧ I2 16 a.toNat ≤ N - a) → K [] (n, sl, T, I2, P, G2)) : zX zMd L xs 56 [.inr (.inl (some 14)), .inl a] (n, sl, T, I, P, G) K := by
  have t14 : T 14 = (1, 6, [1]) := hC 14 (by decide) (by decide)
  have t15 : T 15 = (2, 1, [41, 0]) := hC 15 (by decide) (by decide)
  have tx := zFl_t hC ix
  refine z_inl ?_
  refine z_lv (lv2 := [(0, _), (1, _)]) ⟨rfl, rfl, trivial⟩ ?_
  refine z_aload_n (pc2 := 1) rfl rfl rfl ?_
  refine z_getP (pc2 := 4) rfl rfl rfl rfl t14 ?_
  intro p1 p1e p1k
  replace p1k : p1 = some 15 := p1k; clear p1e; subst p1k
  refine z_iload_n (pc2 := 5) rfl rfl rfl ?_
  refine z_ldc2 (1000000000000) (pc2 := 8) rfl rfl rfl ?_
  refine z_last (pc2 := 9) rfl rfl t15 (by omega) (by omega) (by omega) ?_
  refine z_aload_n (pc2 := 10) rfl rfl rfl ?_
  refine z_callV (y2 := 61) (as := []) (rest := []) (pc2 := 13) rfl rfl rfl rfl t14 rfl ?_
  refine z_inl ?_
  refine z_lv (lv2 := [(0, _)]) ⟨rfl, trivial⟩ ?_
  refine z_aload_n (pc2 := 1) rfl rfl rfl ?_
  refine z_iconst (pc2 := 2) rfl rfl ?_
  refine z_putI (pc2 := 5) rfl rfl rfl rfl rfl rfl t14 (by omega) True.intro ?_
  refine z_aload_n (pc2 := 6) rfl rfl rfl ?_
  refine z_iconst (pc2 := 7) rfl rfl ?_
  refine z_putI (pc2 := 10) rfl rfl rfl rfl rfl rfl t14 (by omega) (by show (0 : Int) ≤ _ ∧ _ ≤ 12; omega) ?_
  refine z_aload_n (pc2 := 11) rfl rfl rfl ?_
  refine z_iconst (pc2 := 12) rfl rfl ?_
  refine z_putI (pc2 := 15) rfl rfl rfl rfl rfl rfl t14 (by omega) (by show (0 : Int) ≤ _ ∧ _ ≤ 4095; omega) ?_
  refine z_ret rfl rfl ?_
  show zB _ _ _ _ _ _ [] _ _
  refine z_iload_n (pc2 := 14) rfl rfl rfl ?_
  refine z_iconst (pc2 := 15) rfl rfl ?_
  refine z_iadd (pc2 := 16) rfl rfl ?_
  refine z_istore_n (lv2 := [(2, _), (0, _), (1, _)]) (pc2 := 17) rfl rfl rfl rfl ?_
  refine z_lv (lv2 := [(0, _), (1, _), (2, _)]) ⟨rfl, rfl, rfl, trivial⟩ ?_
  exact cl_Pager_weighPageFrom (N := N) hn hC (by omega) (by omega) ix (by omega) hB hfo hnh hrn trn hpre hN hK _ _ _ _ (by omega) (zWp_p (by repeat (first | exact zPgr_rf | assumption | refine zPgr_f ?_ (by decide) | refine zPgr_n ?_))) (zG_u (fun _ _ _ => rfl)) (by omega) (Or.inl ⟨by omega, zU_same _ _ _ _⟩) (by simp [zU]; rfl) (Nat.lt_succ_self _)
set_option maxHeartbeats 8000000 in
theorem cl_Pager_weighPages {L : Nat} {xs : Nat → Int32} {n sl : Nat} {T : Nat → zT} {I : Nat → Nat → Int} {P : Nat → Nat → Option Nat} {K : List zV → zH → Prop} {N : Int} {x rn : Nat} (hn : 90 ≤ n) (hC : ∀ a, 1 ≤ a → a ≤ 55 → T a = zFixC a) (hN : 1 ≤ N ∧ N ≤ 40) (ix : x = 23 ∨ x = 30 ∨ x = 42 ∨ x = 49) (hfo : P 14 3 = some x) (hnh : P 14 4 = some rn) (hrn : rn = 22 ∨ rn = 41) (trn : T rn = (2, 0, [12, 12])) (hpre : ∀ j : Nat, (j : Int) < N → ∃ q, P (x + 4) j = some q) (hN : I x 6 = N) (hK : ∀ I2 G2, zWq I I2 → zTk2 N (-1) I2 → K [] (n, sl, T, I2, P, G2)) (m : Nat) : ∀ (I2 : Nat → Nat → Int) (G2 : Nat → Nat → Int), ∀ (k : Int), -1 ≤ k ∧ k ≤ 39 → zWq I I2 → k < N → zGb N k G2 → zTk2 N k I2 → (k + 1).toNat < m → zB zMd L xs 55 23 [(0, .inr (.inl (some 14))), (1, .inl k)] [] (n, sl, T, I2, P, G2) K := by
  have t14 : T 14 = (1, 6, [1]) := hC 14 (by decide) (by decide)
  have tx := zFl_t hC ix
  induction m with
  | zero => intro I2 G2 k hk hI2 hb3 hgb htk hm; omega
  | succ m ih =>
    intro I2 G2 k hk hI2 hb3 hgb htk hm
    refine z_iload_n (pc2 := 24) rfl rfl rfl ?_
    refine z_if_lt (t := 38) (pc2 := 27) rfl rfl rfl (by omega) (fun c1 => ?_) (fun c1 => ?_)
    ·
      refine z_ret rfl rfl ?_
      exact hK _ _ hI2 (by rw [show (-1 : Int) = k by omega]; exact htk)
    ·
      refine z_aload_n (pc2 := 28) rfl rfl rfl ?_
      refine z_iload_n (pc2 := 29) rfl rfl rfl ?_
      refine z_callV (y2 := 56) (as := [_]) (rest := []) (pc2 := 32) rfl rfl rfl rfl t14 rfl ?_
      refine c_Pager_weighPageFrom (N := N) hn hC (by omega) (by omega) ix (by omega) hgb hfo hnh hrn trn hpre ((hI2 x 6 (by omega) (by omega) (by omega)).trans hN) (fun I2 G2 a2 b2 c2 d2 => ?_)
      show zB _ _ _ _ _ _ [] _ _
      refine z_iinc (lv2 := [(1, _), (0, _)]) (pc2 := 35) rfl rfl rfl rfl rfl ?_
      refine z_goto (pc2 := 23) rfl rfl ?_
      refine z_lv (lv2 := [(0, _), (1, _)]) ⟨rfl, rfl, trivial⟩ ?_
      exact ih _ _ _ (by omega) (zWq_s hI2 a2) (by omega) (zGb_s (by omega) hgb b2 c2) (zTk2_s (by omega) htk a2 d2) (by omega)
set_option maxHeartbeats 8000000 in
theorem c_Pager_weighPages {L : Nat} {xs : Nat → Int32} {n sl : Nat} {T : Nat → zT} {I : Nat → Nat → Int} {P : Nat → Nat → Option Nat} {G : Nat → Nat → Int} {K : List zV → zH → Prop} {N : Int} {x rn : Nat} (hn : 90 ≤ n) (hC : ∀ a, 1 ≤ a → a ≤ 55 → T a = zFixC a) (hN : 1 ≤ N ∧ N ≤ 40) (ix : x = 23 ∨ x = 30 ∨ x = 42 ∨ x = 49) (hfo : P 14 3 = some x) (hnh : P 14 4 = some rn) (hrn : rn = 22 ∨ rn = 41) (trn : T rn = (2, 0, [12, 12])) (hpre : ∀ j : Nat, (j : Int) < N → ∃ q, P (x + 4) j = some q) (hN : I x 6 = N) (hK : ∀ I2 G2, zWq I I2 → zTk2 N (-1) I2 → K [] (n, sl, T, I2, P, G2)) : zX zMd L xs 55 [.inr (.inl (some 14))] (n, sl, T, I, P, G) K := by
  have t14 : T 14 = (1, 6, [1]) := hC 14 (by decide) (by decide)
  have t15 : T 15 = (2, 1, [41, 0]) := hC 15 (by decide) (by decide)
  have tx := zFl_t hC ix
  refine z_inl ?_
  refine z_lv (lv2 := [(0, _)]) ⟨rfl, trivial⟩ ?_
  refine z_aload_n (pc2 := 1) rfl rfl rfl ?_
  refine z_getP (pc2 := 4) rfl rfl rfl rfl t14 ?_
  intro p1 p1e p1k
  replace p1k : p1 = some 15 := p1k; clear p1e; subst p1k
  refine z_aload_n (pc2 := 5) rfl rfl rfl ?_
  refine z_getP (pc2 := 8) rfl rfl rfl rfl t14 ?_
  intro p2 p2e p2k
  clear p2k; replace p2e : p2 = some x := by rw [p2e]; first | exact hfo | exact Eq.symm hfo | (simp [zU]; first | done | exact hfo | exact Eq.symm hfo | omega)
  subst p2e
  refine z_getI (pc2 := 11) 0 rfl rfl rfl rfl rfl tx.1 ?_
  intro v3 e3 r3 k3
  replace k3 : (0 : Int) ≤ v3 ∧ v3 ≤ 89 := k3
  replace e3 : N = v3 := by rw [e3]; first | exact hN | exact Eq.symm hN | (simp [zU]; first | done | exact hN | exact Eq.symm hN | omega)
  subst e3
  refine z_lconst 0 (pc2 := 12) rfl rfl rfl ?_
  refine z_last (pc2 := 13) rfl rfl t15 (by omega) (by omega) (by omega) ?_
  refine z_aload_n (pc2 := 14) rfl rfl rfl ?_
  refine z_getP (pc2 := 17) rfl rfl rfl rfl t14 ?_
  intro p4 p4e p4k
  clear p4k; replace p4e : p4 = some x := by rw [p4e]; first | exact hfo | exact Eq.symm hfo | (simp [zU]; first | done | exact hfo | exact Eq.symm hfo | omega)
  subst p4e
  refine z_getI (pc2 := 20) 0 rfl rfl rfl rfl rfl tx.1 ?_
  intro v5 e5 r5 k5
  replace k5 : (0 : Int) ≤ v5 ∧ v5 ≤ 89 := k5
  replace e5 : N = v5 := by rw [e5]; first | exact hN | exact Eq.symm hN | (simp [zU]; first | done | exact hN | exact Eq.symm hN | omega)
  subst e5
  refine z_iconst (pc2 := 21) rfl rfl ?_
  refine z_isub (pc2 := 22) rfl rfl ?_
  refine z_istore_n (lv2 := [(1, _), (0, _)]) (pc2 := 23) rfl rfl rfl rfl ?_
  refine z_lv (lv2 := [(0, _), (1, _)]) ⟨rfl, rfl, trivial⟩ ?_
  exact cl_Pager_weighPages (N := N) hn hC (by omega) ix hfo hnh hrn trn hpre hN hK _ _ _ _ (by omega) (fun _ _ _ _ _ => rfl) (by omega) (fun j h1 h2 => by rw [show j = N.toNat by omega, zU_same]; omega) (fun j h1 h2 => by omega) (Nat.lt_succ_self _)
set_option maxHeartbeats 8000000 in
theorem c_Arrays_copyOf {L : Nat} {xs : Nat → Int32} {n sl : Nat} {T : Nat → zT} {I : Nat → Nat → Int} {P : Nat → Nat → Option Nat} {G : Nat → Nat → Int} {K : List zV → zH → Prop} {u : Int} (hn : 90 ≤ n) (hC : ∀ a, 1 ≤ a → a ≤ 55 → T a = zFixC a) (hu : 0 ≤ u ∧ u ≤ 12) (hK : ∀ T2 I2 P2 G2, (∀ b, b ≤ n → T2 b = T b ∧ I2 b = I b ∧ P2 b = P b) → T2 (n + 1) = (2, 0, [u, 9]) → zTm T T2 → K [.inr (.inl (some (n + 1)))] (n + 1, sl + u.toNat, T2, I2, P2, G2)) : zX zMd L xs 270 [.inr (.inl (some 17)), .inl u] (n, sl, T, I, P, G) K := by
  have t5 : T 5 = (1, 7, [1]) := hC 5 (by decide) (by decide)
  have t17 : T 17 = (2, 0, [12, 9]) := hC 17 (by decide) (by decide)
  refine z_inl ?_
  refine z_lv (lv2 := [(0, _), (1, _)]) ⟨rfl, rfl, trivial⟩ ?_
  refine z_iload_n (pc2 := 1) rfl rfl rfl ?_
  refine z_aload_n (pc2 := 2) rfl rfl rfl ?_
  refine z_alen (pc2 := 3) rfl rfl t17 rfl (by omega) ?_
  refine z_icmp_ne (t := 14) (pc2 := 6) rfl rfl rfl (by omega) (by omega) (fun c1 => ?_) (fun c1 => ?_)
  ·
    refine z_iload_n (pc2 := 15) rfl rfl rfl ?_
    refine z_newI (gs := [9]) (pc2 := 17) rfl rfl (by omega) (by omega) (fun k => by show (0 : Int) ≤ 0 ∧ (0 : Int) ≤ 11; omega) (fun T2 I2 P2 G2 w2 => ?_)
    refine z_astore_n (lv2 := [(2, _), (0, _), (1, _)]) (pc2 := 18) rfl rfl rfl rfl ?_
    refine z_aload_n (pc2 := 19) rfl rfl rfl ?_
    refine z_iconst (pc2 := 20) rfl rfl ?_
    refine z_aload_n (pc2 := 21) rfl rfl rfl ?_
    refine z_iconst (pc2 := 22) rfl rfl ?_
    refine z_aload_n (pc2 := 23) rfl rfl rfl ?_
    refine z_alen (pc2 := 24) rfl rfl ((w2.1 _ (by omega)).1.trans t17) rfl (by omega) ?_
    refine z_iload_n (pc2 := 25) rfl rfl rfl ?_
    refine z_min (pc2 := 28) rfl rfl rfl rfl (by omega) (by omega) (fun v3 v3a v3b => ?_)
    refine z_acopy (pc2 := 31) rfl rfl rfl rfl ((w2.1 _ (by omega)).1.trans t17) w2.2.1 (by omega) (fun _ _ h => h) (fun I4 a4 => ?_)
    refine z_aload_n (pc2 := 32) rfl rfl rfl ?_
    refine z_aret rfl rfl ?_
    exact hK _ _ _ _ (fun b hb => ⟨(w2.1 b (by omega)).1, by funext j; rw [a4 b j (by omega), (w2.1 b (by omega)).2.1], (w2.1 b (by omega)).2.2.1⟩) w2.2.1 (zTk_m w2.2.2.2.2)
  ·
    have eu : u = 12 := by omega
    subst eu
    refine z_aload_n (pc2 := 7) rfl rfl rfl ?_
    refine z_clone (gs := [9]) (pc2 := 10) rfl rfl rfl rfl t17 (by omega) (fun _ _ h => h) (fun T5 I5 P5 G5 c5 t5 k5 => ?_)
    refine z_cast (pc2 := 13) rfl rfl rfl t5 ?_
    refine z_aret rfl rfl ?_
    exact hK _ _ _ _ (fun b hb => ⟨(c5 b (by omega)).1, (c5 b (by omega)).2.1, (c5 b (by omega)).2.2.1⟩) t5 (zTk_m k5)
set_option maxHeartbeats 8000000 in
theorem cl_Pager_makePage {L : Nat} {xs : Nat → Int32} {n sl : Nat} {T : Nat → zT} {I : Nat → Nat → Int} {P : Nat → Nat → Option Nat} {K : List zV → zH → Prop} {a w N : Int} {x rn : Nat} (hn : 90 ≤ n) (hC : ∀ a, 1 ≤ a → a ≤ 55 → T a = zFixC a) (ha : 0 ≤ a ∧ a ≤ 88) (hw : 1 ≤ w ∧ w ≤ 89) (hN : 1 ≤ N ∧ N ≤ 89) (ix : x = 23 ∨ x = 30 ∨ x = 42 ∨ x = 49) (hawN : a + w ≤ N) (hfo : P 14 3 = some x) (hnh : P 14 4 = some rn) (hrn : rn = 22 ∨ rn = 41) (trn : T rn = (2, 0, [12, 12])) (hpre : ∀ j : Nat, (j : Int) < N → ∃ q, P (x + 4) j = some q) (hN : I x 6 = N) (hK : ∀ s2 T2 I2 P2 G2, (∀ b, b ≤ n → T2 b = T b) → (∀ b k, b ≤ n → ¬ (b = 14 ∧ 6 ≤ k) → b ≠ 17 → I2 b k = I b k) → (∀ b k, b ≤ n → P2 b k = P b k) → T2 (n + 1) = (1, 5, [a, w]) → zTm T T2 → s2 ≤ sl + 17 → K [.inr (.inl (some (n + 1)))] (n + 2, s2, T2, I2, P2, G2)) (m : Nat) : ∀ (I2 : Nat → Nat → Int) (G2 : Nat → Nat → Int), ∀ (k : Int), 0 ≤ k ∧ k ≤ 89 → zPgr I I2 → a ≤ k ∧ k ≤ a + w → I2 14 7 = zPop (I2 14 8) → (89 - k).toNat < m → zB zMd L xs 59 6 [(0, .inr (.inl (some 14))), (1, .inl a), (2, .inl w), (3, .inl k)] [] (n, sl, T, I2, P, G2) K := by
  have t7 : T 7 = (2, 0, [40, 21]) := hC 7 (by decide) (by decide)
  have t8 : T 8 = (2, 0, [40, 21]) := hC 8 (by decide) (by decide)
  have t14 : T 14 = (1, 6, [1]) := hC 14 (by decide) (by decide)
  have tx := zFl_t hC ix
  induction m with
  | zero => intro I2 G2 k hk hI2 hb3 hpop hm; omega
  | succ m ih =>
    intro I2 G2 k hk hI2 hb3 hpop hm
    refine z_iload_n (pc2 := 7) rfl rfl rfl ?_
    refine z_iload_n (pc2 := 8) rfl rfl rfl ?_
    refine z_iload_n (pc2 := 9) rfl rfl rfl ?_
    refine z_iadd (pc2 := 10) rfl rfl ?_
    refine z_icmp_ge (t := 32) (pc2 := 13) rfl rfl rfl (by omega) (by omega) (fun c1 => ?_) (fun c1 => ?_)
    ·
      refine z_new (c := 5) (s := 5) (pc2 := 35) rfl rfl rfl rfl (fun _ => True.intro) (fun T2 I2 P2 G2 w2 => ?_)
      refine z_dup (pc2 := 36) rfl rfl rfl ?_
      refine z_iload_n (pc2 := 37) rfl rfl rfl ?_
      refine z_iload_n (pc2 := 38) rfl rfl rfl ?_
      refine z_aload_n (pc2 := 39) rfl rfl rfl ?_
      refine z_getI (pc2 := 42) 0 rfl rfl rfl rfl rfl ((w2.1 _ (by omega)).1.trans t14) ?_
      intro v3 e3 r3 k3
      clear k3
      clear e3
      refine z_aload_n (pc2 := 43) rfl rfl rfl ?_
      refine z_iload_n (pc2 := 44) rfl rfl rfl ?_
      refine z_iload_n (pc2 := 45) rfl rfl rfl ?_
      refine z_iload_n (pc2 := 46) rfl rfl rfl ?_
      refine z_iadd (pc2 := 47) rfl rfl ?_
      refine z_callV (y2 := 60) (as := [_, _]) (rest := [_, _, _, _, _]) (pc2 := 50) rfl rfl rfl rfl ((w2.1 _ (by omega)).1.trans t14) rfl ?_
      refine c_Pager_howIs (N := N) (by omega) (fun a h1 h2 => (((zTn_n zTn_rf w2 (by omega)) : zTn n _ _) a (by omega)).trans (hC a h1 h2)) (by omega) (by omega) (by omega) ix (by omega) (by rw [(w2.1 _ (by omega)).2.2.1]; exact hfo) (by rw [(w2.1 _ (by omega)).2.2.1]; exact hnh) hrn ((w2.1 _ (by omega)).1.trans trn) (fun j hj => by rw [(w2.1 _ (by omega)).2.2.1]; exact hpre j hj) (by rw [(w2.1 _ (by omega)).2.1]; exact (hI2 x 6 (by omega) (by omega)).trans hN) (fun w4 w4r => ?_)
      show zB _ _ _ _ _ _ [_, _, _, _, _, _] _ _
      refine z_aload_n (pc2 := 51) rfl rfl rfl ?_
      refine z_getP (pc2 := 54) rfl rfl rfl rfl ((w2.1 _ (by omega)).1.trans t14) ?_
      intro p5 p5e p5k
      replace p5k : p5 = some 17 := p5k; clear p5e; subst p5k
      refine z_aload_n (pc2 := 55) rfl rfl rfl ?_
      refine z_getI (pc2 := 58) 0 rfl rfl rfl rfl rfl ((w2.1 _ (by omega)).1.trans t14) ?_
      intro v6 e6 r6 k6
      replace k6 : (0 : Int) ≤ v6 ∧ v6 ≤ 12 := k6
      clear e6
      refine z_callS (y2 := 270) (as := [_, _]) (rest := [_, _, _, _, _, _]) (pc2 := 61) rfl rfl rfl rfl ?_
      refine c_Arrays_copyOf (by omega) (fun a h1 h2 => (((zTn_n zTn_rf w2 (by omega)) : zTn n _ _) a (by omega)).trans (hC a h1 h2)) (by omega) (fun T7 I7 P7 G7 f7 t7 m7 => ?_)
      show zB _ _ _ _ _ _ [_, _, _, _, _, _, _] _ _
      refine z_callP (y2 := 51) (as := [_, _, _, _, _]) (rest := [_]) (pc2 := 64) rfl rfl rfl rfl ?_
      refine z_inl ?_
      refine z_lv (lv2 := [(0, _), (1, _), (2, _), (3, _), (4, _), (5, _)]) ⟨rfl, rfl, rfl, rfl, rfl, rfl, trivial⟩ ?_
      refine z_aload_n (pc2 := 1) rfl rfl rfl ?_
      refine z_obj (pc2 := 4) rfl rfl rfl rfl ?_
      refine z_aload_n (pc2 := 5) rfl rfl rfl ?_
      refine z_iload_n (pc2 := 6) rfl rfl rfl ?_
      refine z_putI (pc2 := 9) rfl rfl rfl rfl rfl rfl ((f7 _ (by omega)).1.trans w2.2.1) (by omega) True.intro ?_
      refine z_aload_n (pc2 := 10) rfl rfl rfl ?_
      refine z_iload_n (pc2 := 11) rfl rfl rfl ?_
      refine z_putI (pc2 := 14) rfl rfl rfl rfl rfl rfl ((f7 _ (by omega)).1.trans w2.2.1) (by omega) True.intro ?_
      refine z_aload_n (pc2 := 15) rfl rfl rfl ?_
      refine z_iload_n (pc2 := 16) rfl rfl rfl ?_
      refine z_putI (pc2 := 19) rfl rfl rfl rfl rfl rfl ((f7 _ (by omega)).1.trans w2.2.1) (by omega) True.intro ?_
      refine z_aload_n (pc2 := 20) rfl rfl rfl ?_
      refine z_iload (pc2 := 22) rfl rfl rfl ?_
      refine z_putI (pc2 := 25) rfl rfl rfl rfl rfl rfl ((f7 _ (by omega)).1.trans w2.2.1) (by omega) True.intro ?_
      refine z_aload_n (pc2 := 26) rfl rfl rfl ?_
      refine z_aload (pc2 := 28) rfl rfl rfl ?_
      refine z_putP (pc2 := 31) rfl rfl rfl rfl (by first | exact z_fitO _ _ | exact z_fitA _ _) rfl ((f7 _ (by omega)).1.trans w2.2.1) True.intro ?_
      refine z_ret rfl rfl ?_
      show zB _ _ _ _ _ _ [_] _ _
      refine zB_rtO (g := a) (gs := [w]) ((f7 _ (by omega)).1.trans w2.2.1) (zPage_I (by simp [zU]) (by simp [zU])) (zPage_P (q := ((n + 1) + 1)) (by simp [zU]) (by omega) t7 (by omega)) (fun T8 r8 t8 m8 => ?_)
      refine z_aret rfl rfl ?_
      exact hK _ _ _ _ _ (fun b hb => (zTn_r (zTn_t (m := (n + 1)) (zTn_n zTn_rf w2 (by omega)) (fun b hb => (f7 b hb).1) (by omega)) r8 (by omega)) b hb) (fun b k h1 h2 h3 => by rw [zU_row _ _ _ (by omega), zU_row _ _ _ (by omega), zU_row _ _ _ (by omega), zU_row _ _ _ (by omega), (f7 b (by omega)).2.1, (w2.1 b (by omega)).2.1]; exact hI2 b k h2 h3) (fun b k h1 => by rw [zU_row _ _ _ (by omega), (f7 b (by omega)).2.2, (w2.1 b (by omega)).2.2.1]) t8 (zTm_tr (zTm_tr (zTm_tr (zTm_rf _) (zTk_m w2.2.2.2.2)) m7) m8) (by omega)
    ·
      refine z_aload_n (pc2 := 14) rfl rfl rfl ?_
      refine z_aload_n (pc2 := 15) rfl rfl rfl ?_
      refine z_getP (pc2 := 18) rfl rfl rfl rfl t14 ?_
      intro p9 p9e p9k
      clear p9k; replace p9e : p9 = some x := by rw [p9e]; first | exact hfo | exact Eq.symm hfo | (simp [zU]; first | done | exact hfo | exact Eq.symm hfo | omega)
      subst p9e
      refine z_getP (pc2 := 21) rfl rfl rfl rfl tx.1 ?_
      intro p10 p10e p10k
      replace p10k : p10 = some (x + 4) := p10k; clear p10e; subst p10k
      refine z_iload_n (pc2 := 22) rfl rfl rfl ?_
      refine z_aald (pc2 := 23) rfl rfl tx.2.2.2.2.1 rfl (by omega) (by omega) (by omega) ?_
      intro p11 p11e p11k
      rcases p11k with rfl | ⟨q12, rfl, q129, tq12⟩
      ·
        exact (zNn hpre p11e (by omega)).elim
      ·
        replace tq12 : _ = ((1, 4, [1]) : zT) := tq12
        refine zB_le tq12 trivial (fun q12l => ?_)
        refine z_callV (y2 := 62) (as := [_]) (rest := []) (pc2 := 26) rfl rfl rfl rfl t14 rfl ?_
        refine c_Pager_add hn hC tq12 (by omega) hnh hrn trn hpop (fun I13 f13 h13 => ?_)
        replace f13 := zPgr_tr (I := I) (by repeat (first | exact zPgr_rf | assumption | refine zPgr_f ?_ (by decide) | refine zPgr_n ?_)) f13
        show zB _ _ _ _ _ _ [] _ _
        refine z_iinc (lv2 := [(3, _), (0, _), (1, _), (2, _)]) (pc2 := 29) rfl rfl rfl rfl rfl ?_
        refine z_goto (pc2 := 6) rfl rfl ?_
        refine z_lv (lv2 := [(0, _), (1, _), (2, _), (3, _)]) ⟨rfl, rfl, rfl, rfl, trivial⟩ ?_
        exact ih _ _ _ (by omega) f13 (by omega) h13 (by omega)
set_option maxHeartbeats 8000000 in
theorem c_Pager_makePage {L : Nat} {xs : Nat → Int32} {n sl : Nat} {T : Nat → zT} {I : Nat → Nat → Int} {P : Nat → Nat → Option Nat} {G : Nat → Nat → Int} {K : List zV → zH → Prop} {a w N : Int} {x rn : Nat} (hn : 90 ≤ n) (hC : ∀ a, 1 ≤ a → a ≤ 55 → T a = zFixC a) (ha : 0 ≤ a ∧ a ≤ 88) (hw : 1 ≤ w ∧ w ≤ 89) (hN : 1 ≤ N ∧ N ≤ 89) (ix : x = 23 ∨ x = 30 ∨ x = 42 ∨ x = 49) (hawN : a + w ≤ N) (hfo : P 14 3 = some x) (hnh : P 14 4 = some rn) (hrn : rn = 22 ∨ rn = 41) (trn : T rn = (2, 0, [12, 12])) (hpre : ∀ j : Nat, (j : Int) < N → ∃ q, P (x + 4) j = some q) (hN : I x 6 = N) (hK : ∀ s2 T2 I2 P2 G2, (∀ b, b ≤ n → T2 b = T b) → (∀ b k, b ≤ n → ¬ (b = 14 ∧ 6 ≤ k) → b ≠ 17 → I2 b k = I b k) → (∀ b k, b ≤ n → P2 b k = P b k) → T2 (n + 1) = (1, 5, [a, w]) → zTm T T2 → s2 ≤ sl + 17 → K [.inr (.inl (some (n + 1)))] (n + 2, s2, T2, I2, P2, G2)) : zX zMd L xs 59 [.inr (.inl (some 14)), .inl a, .inl w] (n, sl, T, I, P, G) K := by
  have t14 : T 14 = (1, 6, [1]) := hC 14 (by decide) (by decide)
  have tx := zFl_t hC ix
  refine z_inl ?_
  refine z_lv (lv2 := [(0, _), (1, _), (2, _)]) ⟨rfl, rfl, rfl, trivial⟩ ?_
  refine z_aload_n (pc2 := 1) rfl rfl rfl ?_
  refine z_callV (y2 := 61) (as := []) (rest := []) (pc2 := 4) rfl rfl rfl rfl t14 rfl ?_
  refine z_inl ?_
  refine z_lv (lv2 := [(0, _)]) ⟨rfl, trivial⟩ ?_
  refine z_aload_n (pc2 := 1) rfl rfl rfl ?_
  refine z_iconst (pc2 := 2) rfl rfl ?_
  refine z_putI (pc2 := 5) rfl rfl rfl rfl rfl rfl t14 (by omega) True.intro ?_
  refine z_aload_n (pc2 := 6) rfl rfl rfl ?_
  refine z_iconst (pc2 := 7) rfl rfl ?_
  refine z_putI (pc2 := 10) rfl rfl rfl rfl rfl rfl t14 (by omega) (by show (0 : Int) ≤ _ ∧ _ ≤ 12; omega) ?_
  refine z_aload_n (pc2 := 11) rfl rfl rfl ?_
  refine z_iconst (pc2 := 12) rfl rfl ?_
  refine z_putI (pc2 := 15) rfl rfl rfl rfl rfl rfl t14 (by omega) (by show (0 : Int) ≤ _ ∧ _ ≤ 4095; omega) ?_
  refine z_ret rfl rfl ?_
  show zB _ _ _ _ _ _ [] _ _
  refine z_iload_n (pc2 := 5) rfl rfl rfl ?_
  refine z_istore_n (lv2 := [(3, _), (0, _), (1, _), (2, _)]) (pc2 := 6) rfl rfl rfl rfl ?_
  refine z_lv (lv2 := [(0, _), (1, _), (2, _), (3, _)]) ⟨rfl, rfl, rfl, rfl, trivial⟩ ?_
  exact cl_Pager_makePage (N := N) hn hC (by omega) (by omega) (by omega) ix (by omega) hfo hnh hrn trn hpre hN hK _ _ _ _ (by omega) (by repeat (first | exact zPgr_rf | assumption | refine zPgr_f ?_ (by decide) | refine zPgr_n ?_)) (by omega) (by simp [zU]; rfl) (Nat.lt_succ_self _)
