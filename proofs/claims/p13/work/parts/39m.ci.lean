/-! the class: pages are measured -/
set_option maxHeartbeats 8000000 in
theorem cl_Pager_add {L : Nat} {xs : Nat → Int32} {n sl : Nat} {T : Nat → zT} {I : Nat → Nat → Int} {P : Nat → Nat → Option Nat} {G : Nat → Nat → Int} {K : List zV → zH → Prop} {u : Int} {ar rn : Nat} (hn : 90 ≤ n) (hC : ∀ a, 1 ≤ a → a ≤ 55 → T a = zFixC a) (hu : 0 ≤ u ∧ u ≤ 40) (ta : T ar = (2, 0, [u, 9])) (al : ar ≤ n) (hnh : P 14 4 = some rn) (hrn : rn = 22 ∨ rn = 41) (trn : T rn = (2, 0, [12, 12])) (hK : ∀ I2, zPgr I I2 → I2 14 7 = zPop (I2 14 8) → K [] (n, sl, T, I2, P, G)) (m : Nat) : ∀ (I2 : Nat → Nat → Int), ∀ (k c b : Int), I2 14 7 = c → I2 14 8 = b → 0 ≤ k ∧ k ≤ 40 → 0 ≤ c ∧ c ≤ 12 → 0 ≤ b ∧ b ≤ 4095 → zPgr I I2 → c = zPop b → (40 - k).toNat < m → zB zMd L xs 62 24 [(0, .inr (.inl (some 14))), (2, .inr (.inl (some ar))), (3, .inl u), (4, .inl k)] [] (n, sl, T, I2, P, G) K := by
  have t3 : T 3 = (1, 10, [1]) := hC 3 (by decide) (by decide)
  have t14 : T 14 = (1, 6, [1]) := hC 14 (by decide) (by decide)
  have t17 : T 17 = (2, 0, [12, 9]) := hC 17 (by decide) (by decide)
  induction m with
  | zero => intro I2 k c b hc7 hb8 hk hc hb hI2 hpop hm; omega
  | succ m ih =>
    intro I2 k c b hc7 hb8 hk hc hb hI2 hpop hm
    refine z_iload (pc2 := 26) rfl rfl rfl ?_
    refine z_iload_n (pc2 := 27) rfl rfl rfl ?_
    refine z_icmp_ge (t := 106) (pc2 := 30) rfl rfl rfl (by omega) (by omega) (fun c1 => ?_) (fun c1 => ?_)
    ·
      refine z_ret rfl rfl ?_
      exact hK _ hI2 (by rw [hc7, hb8]; exact hpop)
    ·
      refine z_aload_n (pc2 := 31) rfl rfl rfl ?_
      refine z_iload (pc2 := 33) rfl rfl rfl ?_
      refine z_iald (pc2 := 34) rfl rfl ta (by omega) (by omega) (by omega) ?_
      intro v2 e2 r2 k2
      replace k2 : (0 : Int) ≤ v2 ∧ v2 ≤ 11 := k2
      clear e2
      refine z_istore (lv2 := [(5, _), (0, _), (2, _), (3, _), (4, _)]) (pc2 := 36) rfl rfl rfl rfl ?_
      refine z_iconst (pc2 := 37) rfl rfl ?_
      refine z_iload (pc2 := 39) rfl rfl rfl ?_
      refine z_bit (pc2 := 40) rfl rfl (by omega) (fun t3 t3e t3r => ?_)
      refine z_istore (lv2 := [(6, _), (5, _), (0, _), (2, _), (3, _), (4, _)]) (pc2 := 42) rfl rfl rfl rfl ?_
      refine z_aload_n (pc2 := 43) rfl rfl rfl ?_
      refine z_getI (pc2 := 46) 0 rfl rfl rfl rfl rfl t14 ?_
      intro v4 e4 r4 k4
      replace k4 : (0 : Int) ≤ v4 ∧ v4 ≤ 4095 := k4
      replace e4 : b = v4 := by rw [e4]; first | exact hb8 | exact Eq.symm hb8 | (simp [zU]; first | done | exact hb8 | exact Eq.symm hb8 | omega)
      subst e4
      refine z_iload (pc2 := 48) rfl rfl rfl ?_
      refine z_andb (p := (v2)) (pc2 := 49) rfl rfl t3e (by omega) (by omega) (fun e5 e5r e5z => ?_)
      refine z_if_ne (t := 100) (pc2 := 52) rfl rfl rfl (by omega) (fun c6 => ?_) (fun c6 => ?_)
      ·
        refine z_iinc (lv2 := [(4, _), (6, _), (5, _), (0, _), (2, _), (3, _)]) (pc2 := 103) rfl rfl rfl rfl rfl ?_
        refine z_goto (pc2 := 24) rfl rfl ?_
        refine z_lv (lv2 := [(0, _), (2, _), (3, _), (4, _)]) ⟨rfl, rfl, rfl, rfl, trivial⟩ ?_
        exact ih _ _ _ _ (by first | assumption | exact (zU_at _ _ _ (by decide)).trans (zU_same _ _ _ _)) (by first | assumption | exact (zU_at _ _ _ (by decide)).trans ((zU_at _ _ _ (by decide)).trans ((congrFun (zU_row _ _ _ (by decide)) _).trans (zU_same _ _ _ _)))) (by omega) (by omega) (by omega) (by repeat (first | exact zPgr_rf | assumption | refine zPgr_f ?_ (by decide) | refine zPgr_n ?_)) (by first | exact hpop | omega) (by omega)
      ·
        refine z_aload_n (pc2 := 53) rfl rfl rfl ?_
        refine z_dup (pc2 := 54) rfl rfl rfl ?_
        refine z_getI (pc2 := 57) 0 rfl rfl rfl rfl rfl t14 ?_
        intro v7 e7 r7 k7
        replace k7 : (0 : Int) ≤ v7 ∧ v7 ≤ 4095 := k7
        replace e7 : b = v7 := by rw [e7]; first | exact hb8 | exact Eq.symm hb8 | (simp [zU]; first | done | exact hb8 | exact Eq.symm hb8 | omega)
        subst e7
        refine z_iload (pc2 := 59) rfl rfl rfl ?_
        refine z_orb (p := (v2)) (pc2 := 60) rfl rfl t3e (by omega) (by omega) (e5z (by omega)) (fun o8 o8r o8p => ?_)
        have o8l := zPop_le o8
        refine z_putI (pc2 := 63) rfl rfl rfl rfl rfl rfl t14 (by omega) (by show (0 : Int) ≤ _ ∧ _ ≤ 4095; omega) ?_
        refine z_aload_n (pc2 := 64) rfl rfl rfl ?_
        refine z_getP (pc2 := 67) rfl rfl rfl rfl t14 ?_
        intro p9 p9e p9k
        replace p9k : p9 = some 17 := p9k; clear p9e; subst p9k
        refine z_aload_n (pc2 := 68) rfl rfl rfl ?_
        refine z_getI (pc2 := 71) 0 rfl rfl rfl rfl rfl t14 ?_
        intro v10 e10 r10 k10
        replace k10 : (0 : Int) ≤ v10 ∧ v10 ≤ 12 := k10
        replace e10 : c = v10 := by rw [e10]; first | exact hc7 | exact Eq.symm hc7 | (simp [zU]; first | done | exact hc7 | exact Eq.symm hc7 | omega)
        subst e10
        refine z_iload (pc2 := 73) rfl rfl rfl ?_
        refine z_iast (pc2 := 74) rfl rfl t17 (by omega) (by omega) (by omega) (by omega) (by show (0 : Int) ≤ _ ∧ _ ≤ 11; omega) ?_
        refine z_aload_n (pc2 := 75) rfl rfl rfl ?_
        refine z_dup (pc2 := 76) rfl rfl rfl ?_
        refine z_getI (pc2 := 79) 0 rfl rfl rfl rfl rfl t14 ?_
        intro v11 e11 r11 k11
        replace k11 : (0 : Int) ≤ v11 ∧ v11 ≤ 12 := k11
        replace e11 : c = v11 := by rw [e11]; first | exact hc7 | exact Eq.symm hc7 | (simp [zU]; first | done | exact hc7 | exact Eq.symm hc7 | omega)
        subst e11
        refine z_iconst (pc2 := 80) rfl rfl ?_
        refine z_iadd (pc2 := 81) rfl rfl ?_
        refine z_putI (pc2 := 84) rfl rfl rfl rfl rfl rfl t14 (by omega) (by show (0 : Int) ≤ _ ∧ _ ≤ 12; omega) ?_
        refine z_aload_n (pc2 := 85) rfl rfl rfl ?_
        refine z_dup (pc2 := 86) rfl rfl rfl ?_
        refine z_getI (pc2 := 89) 0 rfl rfl rfl rfl rfl t14 ?_
        intro v12 e12 r12 k12
        clear k12
        clear e12
        refine z_aload_n (pc2 := 90) rfl rfl rfl ?_
        refine z_getP (pc2 := 93) rfl rfl rfl rfl t14 ?_
        intro p13 p13e p13k
        clear p13k; replace p13e : p13 = some rn := by rw [p13e]; first | exact hnh | exact Eq.symm hnh | (simp [zU]; first | done | exact hnh | exact Eq.symm hnh | omega)
        subst p13e
        refine z_iload (pc2 := 95) rfl rfl rfl ?_
        refine z_iald (pc2 := 96) rfl rfl trn (by omega) (by omega) (by omega) ?_
        intro v14 e14 r14 k14
        replace k14 : (0 : Int) ≤ v14 ∧ v14 ≤ 9 := k14
        clear e14
        refine z_iadd (pc2 := 97) rfl rfl ?_
        refine z_putI_any (pc2 := 100) rfl rfl rfl rfl rfl rfl t14 (fun _ _ => True.intro) (fun u15 u15r => ?_)
        refine z_iinc (lv2 := [(4, _), (6, _), (5, _), (0, _), (2, _), (3, _)]) (pc2 := 103) rfl rfl rfl rfl rfl ?_
        refine z_goto (pc2 := 24) rfl rfl ?_
        refine z_lv (lv2 := [(0, _), (2, _), (3, _), (4, _)]) ⟨rfl, rfl, rfl, rfl, trivial⟩ ?_
        exact ih _ _ _ _ (by first | assumption | exact (zU_at _ _ _ (by decide)).trans (zU_same _ _ _ _)) (by first | assumption | exact (zU_at _ _ _ (by decide)).trans ((zU_at _ _ _ (by decide)).trans ((congrFun (zU_row _ _ _ (by decide)) _).trans (zU_same _ _ _ _)))) (by omega) (by omega) (by omega) (by repeat (first | exact zPgr_rf | assumption | refine zPgr_f ?_ (by decide) | refine zPgr_n ?_)) (by first | exact hpop | omega) (by omega)
set_option maxHeartbeats 8000000 in
theorem c_Pager_add {L : Nat} {xs : Nat → Int32} {n sl : Nat} {T : Nat → zT} {I : Nat → Nat → Int} {P : Nat → Nat → Option Nat} {G : Nat → Nat → Int} {K : List zV → zH → Prop} {ln rn : Nat} (hn : 90 ≤ n) (hC : ∀ a, 1 ≤ a → a ≤ 55 → T a = zFixC a) (tl : T ln = (1, 4, [1])) (ll : ln ≤ n) (hnh : P 14 4 = some rn) (hrn : rn = 22 ∨ rn = 41) (trn : T rn = (2, 0, [12, 12])) (hpop : I 14 7 = zPop (I 14 8)) (hK : ∀ I2, zPgr I I2 → I2 14 7 = zPop (I2 14 8) → K [] (n, sl, T, I2, P, G)) : zX zMd L xs 62 [.inr (.inl (some 14)), .inr (.inl (some ln))] (n, sl, T, I, P, G) K := by
  have t14 : T 14 = (1, 6, [1]) := hC 14 (by decide) (by decide)
  refine zX_wf2 (fun hw => ?_)
  have b7 : 0 ≤ I 14 7 ∧ I 14 7 ≤ 12 := by have h1 := hw.2.1 14 7; rw [show (n, sl, T, I, P, G).2.2.1 14 = T 14 from rfl, hC 14 (by decide) (by decide)] at h1; exact h1
  have b8 : 0 ≤ I 14 8 ∧ I 14 8 ≤ 4095 := by have h1 := hw.2.1 14 8; rw [show (n, sl, T, I, P, G).2.2.1 14 = T 14 from rfl, hC 14 (by decide) (by decide)] at h1; exact h1
  refine z_inl ?_
  refine z_lv (lv2 := [(0, _), (1, _)]) ⟨rfl, rfl, trivial⟩ ?_
  refine z_aload_n (pc2 := 1) rfl rfl rfl ?_
  refine z_dup (pc2 := 2) rfl rfl rfl ?_
  refine z_getI (pc2 := 5) 0 rfl rfl rfl rfl rfl t14 ?_
  intro v1 e1 r1 k1
  clear k1
  clear e1
  refine z_aload_n (pc2 := 6) rfl rfl rfl ?_
  refine z_getI (pc2 := 9) 0 rfl rfl rfl rfl rfl tl ?_
  intro v2 e2 r2 k2
  clear k2
  clear e2
  refine z_iadd (pc2 := 10) rfl rfl ?_
  refine z_putI_any (pc2 := 13) rfl rfl rfl rfl rfl rfl t14 (fun _ _ => True.intro) (fun u3 u3r => ?_)
  refine z_aload_n (pc2 := 14) rfl rfl rfl ?_
  refine z_getP (pc2 := 17) rfl rfl rfl rfl tl ?_
  intro p4 p4e p4k
  obtain ⟨q5, rfl, q59, m6, tq5, q5b⟩ := p4k
  replace tq5 : _ = ((2, 0, [(m6), 9]) : zT) := tq5
  refine zB_le tq5 trivial (fun q5l => ?_)
  refine z_astore_n (lv2 := [(2, _), (0, _), (1, _)]) (pc2 := 18) rfl rfl rfl rfl ?_
  refine z_aload_n (pc2 := 19) rfl rfl rfl ?_
  refine z_alen (pc2 := 20) rfl rfl tq5 rfl (by omega) ?_
  refine z_istore_n (lv2 := [(3, _), (2, _), (0, _), (1, _)]) (pc2 := 21) rfl rfl rfl rfl ?_
  refine z_iconst (pc2 := 22) rfl rfl ?_
  refine z_istore (lv2 := [(4, _), (3, _), (2, _), (0, _), (1, _)]) (pc2 := 24) rfl rfl rfl rfl ?_
  refine z_lv (lv2 := [(0, _), (2, _), (3, _), (4, _)]) ⟨rfl, rfl, rfl, rfl, trivial⟩ ?_
  exact cl_Pager_add hn hC (by omega) tq5 (by omega) hnh hrn trn (fun I9 h8 h9 => hK I9 (zPgr_tr (by repeat (first | exact zPgr_rf | assumption | refine zPgr_f ?_ (by decide) | refine zPgr_n ?_)) h8) h9) _ _ _ (I 14 7) (I 14 8) (by first | rfl | exact zU_at _ _ _ (by decide)) (by first | rfl | exact zU_at _ _ _ (by decide)) (by omega) b7 b8 zPgr_rf hpop (Nat.lt_succ_self _)
set_option maxHeartbeats 8000000 in
theorem c_Pager_howIs {L : Nat} {xs : Nat → Int32} {n sl : Nat} {T : Nat → zT} {I : Nat → Nat → Int} {P : Nat → Nat → Option Nat} {G : Nat → Nat → Int} {K : List zV → zH → Prop} {a c N : Int} {x rn : Nat} (hn : 90 ≤ n) (hC : ∀ a, 1 ≤ a → a ≤ 55 → T a = zFixC a) (ha : 0 ≤ a ∧ a ≤ 88) (hc : 1 ≤ c ∧ c ≤ 89) (hN : 0 ≤ N ∧ N ≤ 89) (ix : x = 23 ∨ x = 30 ∨ x = 42 ∨ x = 49) (hac : a < c ∧ c ≤ N) (hfo : P 14 3 = some x) (hnh : P 14 4 = some rn) (hrn : rn = 22 ∨ rn = 41) (trn : T rn = (2, 0, [12, 12])) (hpre : ∀ j : Nat, (j : Int) < N → ∃ q, P (x + 4) j = some q) (hN : I x 6 = N) (hK : ∀ e, zR e → K [.inl e] (n, sl, T, I, P, G)) : zX zMd L xs 60 [.inr (.inl (some 14)), .inl a, .inl c] (n, sl, T, I, P, G) K := by
  have t14 : T 14 = (1, 6, [1]) := hC 14 (by decide) (by decide)
  have tx := zFl_t hC ix
  refine z_inl ?_
  refine z_lv (lv2 := [(0, _), (1, _), (2, _)]) ⟨rfl, rfl, rfl, trivial⟩ ?_
  refine z_aload_n (pc2 := 1) rfl rfl rfl ?_
  refine z_getI (pc2 := 4) 0 rfl rfl rfl rfl rfl t14 ?_
  intro v1 e1 r1 k1
  clear k1
  clear e1
  refine z_aload_n (pc2 := 5) rfl rfl rfl ?_
  refine z_getI (pc2 := 8) 0 rfl rfl rfl rfl rfl t14 ?_
  intro v2 e2 r2 k2
  clear k2
  clear e2
  refine z_icmp_le (t := 15) (pc2 := 11) rfl rfl rfl (by omega) (by omega) (fun c3 => ?_) (fun c3 => ?_)
  ·
    refine z_iconst (pc2 := 16) rfl rfl ?_
    refine z_istore_n (lv2 := [(3, _), (0, _), (1, _), (2, _)]) (pc2 := 17) rfl rfl rfl rfl ?_
    refine z_iload_n (pc2 := 18) rfl rfl rfl ?_
    refine z_aload_n (pc2 := 19) rfl rfl rfl ?_
    refine z_getP (pc2 := 22) rfl rfl rfl rfl t14 ?_
    intro p4 p4e p4k
    clear p4k; replace p4e : p4 = some x := by rw [p4e]; first | exact hfo | exact Eq.symm hfo | (simp [zU]; first | done | exact hfo | exact Eq.symm hfo | omega)
    subst p4e
    refine z_getP (pc2 := 25) rfl rfl rfl rfl tx.1 ?_
    intro p5 p5e p5k
    replace p5k : p5 = some (x + 4) := p5k; clear p5e; subst p5k
    refine z_iload_n (pc2 := 26) rfl rfl rfl ?_
    refine z_aald (pc2 := 27) rfl rfl tx.2.2.2.2.1 rfl (by omega) (by omega) (by omega) ?_
    intro p6 p6e p6k
    rcases p6k with rfl | ⟨q7, rfl, q79, tq7⟩
    ·
      exact (zNn hpre p6e (by omega)).elim
    ·
      replace tq7 : _ = ((1, 4, [1]) : zT) := tq7
      refine zB_le tq7 trivial (fun q7l => ?_)
      refine z_callV (y2 := 47) (as := []) (rest := [_]) (pc2 := 30) rfl rfl rfl rfl tq7 rfl ?_
      refine z_inl ?_
      refine z_lv (lv2 := [(0, _)]) ⟨rfl, trivial⟩ ?_
      refine z_aload_n (pc2 := 1) rfl rfl rfl ?_
      refine z_getI (pc2 := 4) 0 rfl rfl rfl rfl rfl tq7 ?_
      intro v8 e8 r8 k8
      clear k8
      clear e8
      refine z_iconst (pc2 := 5) rfl rfl ?_
      refine z_icmp_le (t := 25) (pc2 := 8) rfl rfl rfl (by omega) (by omega) (fun c9 => ?_) (fun c9 => ?_)
      ·
        refine z_iconst (pc2 := 26) rfl rfl ?_
        refine z_zret rfl rfl (by omega) ?_
        show zB _ _ _ _ _ _ [_, _] _ _
        refine z_if_eq (t := 37) (pc2 := 33) rfl rfl rfl (by omega) (fun c10 => ?_) (fun c10 => by exfalso; omega)
        refine z_iconst (pc2 := 38) rfl rfl ?_
        refine z_ior (pc2 := 39) rfl rfl (fun r11 => ?_)
        refine z_istore_n (lv2 := [(3, _), (0, _), (1, _), (2, _)]) (pc2 := 40) rfl rfl rfl rfl ?_
        refine z_iload_n (pc2 := 41) rfl rfl rfl ?_
        refine z_aload_n (pc2 := 42) rfl rfl rfl ?_
        refine z_getP (pc2 := 45) rfl rfl rfl rfl t14 ?_
        intro p13 p13e p13k
        clear p13k; replace p13e : p13 = some x := by rw [p13e]; first | exact hfo | exact Eq.symm hfo | (simp [zU]; first | done | exact hfo | exact Eq.symm hfo | omega)
        subst p13e
        refine z_getP (pc2 := 48) rfl rfl rfl rfl tx.1 ?_
        intro p14 p14e p14k
        replace p14k : p14 = some (x + 4) := p14k; clear p14e; subst p14k
        refine z_iload_n (pc2 := 49) rfl rfl rfl ?_
        refine z_iconst (pc2 := 50) rfl rfl ?_
        refine z_isub (pc2 := 51) rfl rfl ?_
        refine z_aald (pc2 := 52) rfl rfl tx.2.2.2.2.1 rfl (by omega) (by omega) (by omega) ?_
        intro p15 p15e p15k
        rcases p15k with rfl | ⟨q16, rfl, q169, tq16⟩
        ·
          exact (zNn hpre p15e (by omega)).elim
        ·
          replace tq16 : _ = ((1, 4, [1]) : zT) := tq16
          refine zB_le tq16 trivial (fun q16l => ?_)
          refine z_callV (y2 := 48) (as := []) (rest := [_]) (pc2 := 55) rfl rfl rfl rfl tq16 rfl ?_
          refine z_inl ?_
          refine z_lv (lv2 := [(0, _)]) ⟨rfl, trivial⟩ ?_
          refine z_aload_n (pc2 := 1) rfl rfl rfl ?_
          refine z_getI (pc2 := 4) 0 rfl rfl rfl rfl rfl tq16 ?_
          intro v17 e17 r17 k17
          clear k17
          clear e17
          refine z_iconst (pc2 := 5) rfl rfl ?_
          refine z_icmp_le (t := 19) (pc2 := 8) rfl rfl rfl (by omega) (by omega) (fun c18 => ?_) (fun c18 => ?_)
          ·
            refine z_iconst (pc2 := 20) rfl rfl ?_
            refine z_zret rfl rfl (by omega) ?_
            show zB _ _ _ _ _ _ [_, _] _ _
            refine z_if_eq (t := 62) (pc2 := 58) rfl rfl rfl (by omega) (fun c19 => ?_) (fun c19 => by exfalso; omega)
            refine z_iconst (pc2 := 63) rfl rfl ?_
            refine z_ior (pc2 := 64) rfl rfl (fun r20 => ?_)
            refine z_istore_n (lv2 := [(3, _), (0, _), (1, _), (2, _)]) (pc2 := 65) rfl rfl rfl rfl ?_
            refine z_iload_n (pc2 := 66) rfl rfl rfl ?_
            refine z_iret rfl rfl ?_
            exact hK _ (by omega)
          ·
            refine z_aload_n (pc2 := 9) rfl rfl rfl ?_
            refine z_getI (pc2 := 12) 0 rfl rfl rfl rfl rfl tq16 ?_
            intro v22 e22 r22 k22
            clear k22
            clear e22
            refine z_if_ne (t := 19) (pc2 := 15) rfl rfl rfl (by omega) (fun c23 => ?_) (fun c23 => ?_)
            ·
              refine z_iconst (pc2 := 20) rfl rfl ?_
              refine z_zret rfl rfl (by omega) ?_
              show zB _ _ _ _ _ _ [_, _] _ _
              refine z_if_eq (t := 62) (pc2 := 58) rfl rfl rfl (by omega) (fun c24 => ?_) (fun c24 => by exfalso; omega)
              refine z_iconst (pc2 := 63) rfl rfl ?_
              refine z_ior (pc2 := 64) rfl rfl (fun r25 => ?_)
              refine z_istore_n (lv2 := [(3, _), (0, _), (1, _), (2, _)]) (pc2 := 65) rfl rfl rfl rfl ?_
              refine z_iload_n (pc2 := 66) rfl rfl rfl ?_
              refine z_iret rfl rfl ?_
              exact hK _ (by omega)
            ·
              refine z_iconst (pc2 := 16) rfl rfl ?_
              refine z_goto (pc2 := 20) rfl rfl ?_
              refine z_zret rfl rfl (by omega) ?_
              show zB _ _ _ _ _ _ [_, _] _ _
              refine z_if_eq (t := 62) (pc2 := 58) rfl rfl rfl (by omega) (fun c27 => by exfalso; omega) (fun c27 => ?_)
              refine z_iconst (pc2 := 59) rfl rfl ?_
              refine z_goto (pc2 := 63) rfl rfl ?_
              refine z_ior (pc2 := 64) rfl rfl (fun r28 => ?_)
              refine z_istore_n (lv2 := [(3, _), (0, _), (1, _), (2, _)]) (pc2 := 65) rfl rfl rfl rfl ?_
              refine z_iload_n (pc2 := 66) rfl rfl rfl ?_
              refine z_iret rfl rfl ?_
              exact hK _ (by omega)
      ·
        refine z_aload_n (pc2 := 9) rfl rfl rfl ?_
        refine z_getI (pc2 := 12) 0 rfl rfl rfl rfl rfl tq7 ?_
        intro v30 e30 r30 k30
        clear k30
        clear e30
        refine z_aload_n (pc2 := 13) rfl rfl rfl ?_
        refine z_getI (pc2 := 16) 0 rfl rfl rfl rfl rfl tq7 ?_
        intro v31 e31 r31 k31
        clear k31
        clear e31
        refine z_iconst (pc2 := 17) rfl rfl ?_
        refine z_isub (pc2 := 18) rfl rfl ?_
        refine z_icmp_any (t := 25) (pc2 := 21) rfl rfl rfl ?_ ?_
        ·
          refine z_iconst (pc2 := 26) rfl rfl ?_
          refine z_zret rfl rfl (by omega) ?_
          show zB _ _ _ _ _ _ [_, _] _ _
          refine z_if_eq (t := 37) (pc2 := 33) rfl rfl rfl (by omega) (fun c32 => ?_) (fun c32 => by exfalso; omega)
          refine z_iconst (pc2 := 38) rfl rfl ?_
          refine z_ior (pc2 := 39) rfl rfl (fun r33 => ?_)
          refine z_istore_n (lv2 := [(3, _), (0, _), (1, _), (2, _)]) (pc2 := 40) rfl rfl rfl rfl ?_
          refine z_iload_n (pc2 := 41) rfl rfl rfl ?_
          refine z_aload_n (pc2 := 42) rfl rfl rfl ?_
          refine z_getP (pc2 := 45) rfl rfl rfl rfl t14 ?_
          intro p35 p35e p35k
          clear p35k; replace p35e : p35 = some x := by rw [p35e]; first | exact hfo | exact Eq.symm hfo | (simp [zU]; first | done | exact hfo | exact Eq.symm hfo | omega)
          subst p35e
          refine z_getP (pc2 := 48) rfl rfl rfl rfl tx.1 ?_
          intro p36 p36e p36k
          replace p36k : p36 = some (x + 4) := p36k; clear p36e; subst p36k
          refine z_iload_n (pc2 := 49) rfl rfl rfl ?_
          refine z_iconst (pc2 := 50) rfl rfl ?_
          refine z_isub (pc2 := 51) rfl rfl ?_
          refine z_aald (pc2 := 52) rfl rfl tx.2.2.2.2.1 rfl (by omega) (by omega) (by omega) ?_
          intro p37 p37e p37k
          rcases p37k with rfl | ⟨q38, rfl, q389, tq38⟩
          ·
            exact (zNn hpre p37e (by omega)).elim
          ·
            replace tq38 : _ = ((1, 4, [1]) : zT) := tq38
            refine zB_le tq38 trivial (fun q38l => ?_)
            refine z_callV (y2 := 48) (as := []) (rest := [_]) (pc2 := 55) rfl rfl rfl rfl tq38 rfl ?_
            refine z_inl ?_
            refine z_lv (lv2 := [(0, _)]) ⟨rfl, trivial⟩ ?_
            refine z_aload_n (pc2 := 1) rfl rfl rfl ?_
            refine z_getI (pc2 := 4) 0 rfl rfl rfl rfl rfl tq38 ?_
            intro v39 e39 r39 k39
            clear k39
            clear e39
            refine z_iconst (pc2 := 5) rfl rfl ?_
            refine z_icmp_le (t := 19) (pc2 := 8) rfl rfl rfl (by omega) (by omega) (fun c40 => ?_) (fun c40 => ?_)
            ·
              refine z_iconst (pc2 := 20) rfl rfl ?_
              refine z_zret rfl rfl (by omega) ?_
              show zB _ _ _ _ _ _ [_, _] _ _
              refine z_if_eq (t := 62) (pc2 := 58) rfl rfl rfl (by omega) (fun c41 => ?_) (fun c41 => by exfalso; omega)
              refine z_iconst (pc2 := 63) rfl rfl ?_
              refine z_ior (pc2 := 64) rfl rfl (fun r42 => ?_)
              refine z_istore_n (lv2 := [(3, _), (0, _), (1, _), (2, _)]) (pc2 := 65) rfl rfl rfl rfl ?_
              refine z_iload_n (pc2 := 66) rfl rfl rfl ?_
              refine z_iret rfl rfl ?_
              exact hK _ (by omega)
            ·
              refine z_aload_n (pc2 := 9) rfl rfl rfl ?_
              refine z_getI (pc2 := 12) 0 rfl rfl rfl rfl rfl tq38 ?_
              intro v44 e44 r44 k44
              clear k44
              clear e44
              refine z_if_ne (t := 19) (pc2 := 15) rfl rfl rfl (by omega) (fun c45 => ?_) (fun c45 => ?_)
              ·
                refine z_iconst (pc2 := 20) rfl rfl ?_
                refine z_zret rfl rfl (by omega) ?_
                show zB _ _ _ _ _ _ [_, _] _ _
                refine z_if_eq (t := 62) (pc2 := 58) rfl rfl rfl (by omega) (fun c46 => ?_) (fun c46 => by exfalso; omega)
                refine z_iconst (pc2 := 63) rfl rfl ?_
                refine z_ior (pc2 := 64) rfl rfl (fun r47 => ?_)
                refine z_istore_n (lv2 := [(3, _), (0, _), (1, _), (2, _)]) (pc2 := 65) rfl rfl rfl rfl ?_
                refine z_iload_n (pc2 := 66) rfl rfl rfl ?_
                refine z_iret rfl rfl ?_
                exact hK _ (by omega)
              ·
                refine z_iconst (pc2 := 16) rfl rfl ?_
                refine z_goto (pc2 := 20) rfl rfl ?_
                refine z_zret rfl rfl (by omega) ?_
                show zB _ _ _ _ _ _ [_, _] _ _
                refine z_if_eq (t := 62) (pc2 := 58) rfl rfl rfl (by omega) (fun c49 => by exfalso; omega) (fun c49 => ?_)
                refine z_iconst (pc2 := 59) rfl rfl ?_
                refine z_goto (pc2 := 63) rfl rfl ?_
                refine z_ior (pc2 := 64) rfl rfl (fun r50 => ?_)
                refine z_istore_n (lv2 := [(3, _), (0, _), (1, _), (2, _)]) (pc2 := 65) rfl rfl rfl rfl ?_
                refine z_iload_n (pc2 := 66) rfl rfl rfl ?_
                refine z_iret rfl rfl ?_
                exact hK _ (by omega)
        ·
          refine z_iconst (pc2 := 22) rfl rfl ?_
          refine z_goto (pc2 := 26) rfl rfl ?_
          refine z_zret rfl rfl (by omega) ?_
          show zB _ _ _ _ _ _ [_, _] _ _
          refine z_if_eq (t := 37) (pc2 := 33) rfl rfl rfl (by omega) (fun c52 => by exfalso; omega) (fun c52 => ?_)
          refine z_iconst (pc2 := 34) rfl rfl ?_
          refine z_goto (pc2 := 38) rfl rfl ?_
          refine z_ior (pc2 := 39) rfl rfl (fun r53 => ?_)
          refine z_istore_n (lv2 := [(3, _), (0, _), (1, _), (2, _)]) (pc2 := 40) rfl rfl rfl rfl ?_
          refine z_iload_n (pc2 := 41) rfl rfl rfl ?_
          refine z_aload_n (pc2 := 42) rfl rfl rfl ?_
          refine z_getP (pc2 := 45) rfl rfl rfl rfl t14 ?_
          intro p55 p55e p55k
          clear p55k; replace p55e : p55 = some x := by rw [p55e]; first | exact hfo | exact Eq.symm hfo | (simp [zU]; first | done | exact hfo | exact Eq.symm hfo | omega)
          subst p55e
          refine z_getP (pc2 := 48) rfl rfl rfl rfl tx.1 ?_
          intro p56 p56e p56k
          replace p56k : p56 = some (x + 4) := p56k; clear p56e; subst p56k
          refine z_iload_n (pc2 := 49) rfl rfl rfl ?_
          refine z_iconst (pc2 := 50) rfl rfl ?_
          refine z_isub (pc2 := 51) rfl rfl ?_
          refine z_aald (pc2 := 52) rfl rfl tx.2.2.2.2.1 rfl (by omega) (by omega) (by omega) ?_
          intro p57 p57e p57k
          rcases p57k with rfl | ⟨q58, rfl, q589, tq58⟩
          ·
            exact (zNn hpre p57e (by omega)).elim
          ·
            replace tq58 : _ = ((1, 4, [1]) : zT) := tq58
            refine zB_le tq58 trivial (fun q58l => ?_)
            refine z_callV (y2 := 48) (as := []) (rest := [_]) (pc2 := 55) rfl rfl rfl rfl tq58 rfl ?_
            refine z_inl ?_
            refine z_lv (lv2 := [(0, _)]) ⟨rfl, trivial⟩ ?_
            refine z_aload_n (pc2 := 1) rfl rfl rfl ?_
            refine z_getI (pc2 := 4) 0 rfl rfl rfl rfl rfl tq58 ?_
            intro v59 e59 r59 k59
            clear k59
            clear e59
            refine z_iconst (pc2 := 5) rfl rfl ?_
            refine z_icmp_le (t := 19) (pc2 := 8) rfl rfl rfl (by omega) (by omega) (fun c60 => ?_) (fun c60 => ?_)
            ·
              refine z_iconst (pc2 := 20) rfl rfl ?_
              refine z_zret rfl rfl (by omega) ?_
              show zB _ _ _ _ _ _ [_, _] _ _
              refine z_if_eq (t := 62) (pc2 := 58) rfl rfl rfl (by omega) (fun c61 => ?_) (fun c61 => by exfalso; omega)
              refine z_iconst (pc2 := 63) rfl rfl ?_
              refine z_ior (pc2 := 64) rfl rfl (fun r62 => ?_)
              refine z_istore_n (lv2 := [(3, _), (0, _), (1, _), (2, _)]) (pc2 := 65) rfl rfl rfl rfl ?_
              refine z_iload_n (pc2 := 66) rfl rfl rfl ?_
              refine z_iret rfl rfl ?_
              exact hK _ (by omega)
            ·
              refine z_aload_n (pc2 := 9) rfl rfl rfl ?_
              refine z_getI (pc2 := 12) 0 rfl rfl rfl rfl rfl tq58 ?_
              intro v64 e64 r64 k64
              clear k64
              clear e64
              refine z_if_ne (t := 19) (pc2 := 15) rfl rfl rfl (by omega) (fun c65 => ?_) (fun c65 => ?_)
              ·
                refine z_iconst (pc2 := 20) rfl rfl ?_
                refine z_zret rfl rfl (by omega) ?_
                show zB _ _ _ _ _ _ [_, _] _ _
                refine z_if_eq (t := 62) (pc2 := 58) rfl rfl rfl (by omega) (fun c66 => ?_) (fun c66 => by exfalso; omega)
                refine z_iconst (pc2 := 63) rfl rfl ?_
                refine z_ior (pc2 := 64) rfl rfl (fun r67 => ?_)
                refine z_istore_n (lv2 := [(3, _), (0, _), (1, _), (2, _)]) (pc2 := 65) rfl rfl rfl rfl ?_
                refine z_iload_n (pc2 := 66) rfl rfl rfl ?_
                refine z_iret rfl rfl ?_
                exact hK _ (by omega)
              ·
                refine z_iconst (pc2 := 16) rfl rfl ?_
                refine z_goto (pc2 := 20) rfl rfl ?_
                refine z_zret rfl rfl (by omega) ?_
                show zB _ _ _ _ _ _ [_, _] _ _
                refine z_if_eq (t := 62) (pc2 := 58) rfl rfl rfl (by omega) (fun c69 => by exfalso; omega) (fun c69 => ?_)
                refine z_iconst (pc2 := 59) rfl rfl ?_
                refine z_goto (pc2 := 63) rfl rfl ?_
                refine z_ior (pc2 := 64) rfl rfl (fun r70 => ?_)
                refine z_istore_n (lv2 := [(3, _), (0, _), (1, _), (2, _)]) (pc2 := 65) rfl rfl rfl rfl ?_
                refine z_iload_n (pc2 := 66) rfl rfl rfl ?_
                refine z_iret rfl rfl ?_
                exact hK _ (by omega)
  ·
    refine z_iconst (pc2 := 12) rfl rfl ?_
    refine z_goto (pc2 := 16) rfl rfl ?_
    refine z_istore_n (lv2 := [(3, _), (0, _), (1, _), (2, _)]) (pc2 := 17) rfl rfl rfl rfl ?_
    refine z_iload_n (pc2 := 18) rfl rfl rfl ?_
    refine z_aload_n (pc2 := 19) rfl rfl rfl ?_
    refine z_getP (pc2 := 22) rfl rfl rfl rfl t14 ?_
    intro p72 p72e p72k
    clear p72k; replace p72e : p72 = some x := by rw [p72e]; first | exact hfo | exact Eq.symm hfo | (simp [zU]; first | done | exact hfo | exact Eq.symm hfo | omega)
    subst p72e
    refine z_getP (pc2 := 25) rfl rfl rfl rfl tx.1 ?_
    intro p73 p73e p73k
    replace p73k : p73 = some (x + 4) := p73k; clear p73e; subst p73k
    refine z_iload_n (pc2 := 26) rfl rfl rfl ?_
    refine z_aald (pc2 := 27) rfl rfl tx.2.2.2.2.1 rfl (by omega) (by omega) (by omega) ?_
    intro p74 p74e p74k
    rcases p74k with rfl | ⟨q75, rfl, q759, tq75⟩
    ·
      exact (zNn hpre p74e (by omega)).elim
    ·
      replace tq75 : _ = ((1, 4, [1]) : zT) := tq75
      refine zB_le tq75 trivial (fun q75l => ?_)
      refine z_callV (y2 := 47) (as := []) (rest := [_]) (pc2 := 30) rfl rfl rfl rfl tq75 rfl ?_
      refine z_inl ?_
      refine z_lv (lv2 := [(0, _)]) ⟨rfl, trivial⟩ ?_
      refine z_aload_n (pc2 := 1) rfl rfl rfl ?_
      refine z_getI (pc2 := 4) 0 rfl rfl rfl rfl rfl tq75 ?_
      intro v76 e76 r76 k76
      clear k76
      clear e76
      refine z_iconst (pc2 := 5) rfl rfl ?_
      refine z_icmp_le (t := 25) (pc2 := 8) rfl rfl rfl (by omega) (by omega) (fun c77 => ?_) (fun c77 => ?_)
      ·
        refine z_iconst (pc2 := 26) rfl rfl ?_
        refine z_zret rfl rfl (by omega) ?_
        show zB _ _ _ _ _ _ [_, _] _ _
        refine z_if_eq (t := 37) (pc2 := 33) rfl rfl rfl (by omega) (fun c78 => ?_) (fun c78 => by exfalso; omega)
        refine z_iconst (pc2 := 38) rfl rfl ?_
        refine z_ior (pc2 := 39) rfl rfl (fun r79 => ?_)
        refine z_istore_n (lv2 := [(3, _), (0, _), (1, _), (2, _)]) (pc2 := 40) rfl rfl rfl rfl ?_
        refine z_iload_n (pc2 := 41) rfl rfl rfl ?_
        refine z_aload_n (pc2 := 42) rfl rfl rfl ?_
        refine z_getP (pc2 := 45) rfl rfl rfl rfl t14 ?_
        intro p81 p81e p81k
        clear p81k; replace p81e : p81 = some x := by rw [p81e]; first | exact hfo | exact Eq.symm hfo | (simp [zU]; first | done | exact hfo | exact Eq.symm hfo | omega)
        subst p81e
        refine z_getP (pc2 := 48) rfl rfl rfl rfl tx.1 ?_
        intro p82 p82e p82k
        replace p82k : p82 = some (x + 4) := p82k; clear p82e; subst p82k
        refine z_iload_n (pc2 := 49) rfl rfl rfl ?_
        refine z_iconst (pc2 := 50) rfl rfl ?_
        refine z_isub (pc2 := 51) rfl rfl ?_
        refine z_aald (pc2 := 52) rfl rfl tx.2.2.2.2.1 rfl (by omega) (by omega) (by omega) ?_
        intro p83 p83e p83k
        rcases p83k with rfl | ⟨q84, rfl, q849, tq84⟩
        ·
          exact (zNn hpre p83e (by omega)).elim
        ·
          replace tq84 : _ = ((1, 4, [1]) : zT) := tq84
          refine zB_le tq84 trivial (fun q84l => ?_)
          refine z_callV (y2 := 48) (as := []) (rest := [_]) (pc2 := 55) rfl rfl rfl rfl tq84 rfl ?_
          refine z_inl ?_
          refine z_lv (lv2 := [(0, _)]) ⟨rfl, trivial⟩ ?_
          refine z_aload_n (pc2 := 1) rfl rfl rfl ?_
          refine z_getI (pc2 := 4) 0 rfl rfl rfl rfl rfl tq84 ?_
          intro v85 e85 r85 k85
          clear k85
          clear e85
          refine z_iconst (pc2 := 5) rfl rfl ?_
          refine z_icmp_le (t := 19) (pc2 := 8) rfl rfl rfl (by omega) (by omega) (fun c86 => ?_) (fun c86 => ?_)
          ·
            refine z_iconst (pc2 := 20) rfl rfl ?_
            refine z_zret rfl rfl (by omega) ?_
            show zB _ _ _ _ _ _ [_, _] _ _
            refine z_if_eq (t := 62) (pc2 := 58) rfl rfl rfl (by omega) (fun c87 => ?_) (fun c87 => by exfalso; omega)
            refine z_iconst (pc2 := 63) rfl rfl ?_
            refine z_ior (pc2 := 64) rfl rfl (fun r88 => ?_)
            refine z_istore_n (lv2 := [(3, _), (0, _), (1, _), (2, _)]) (pc2 := 65) rfl rfl rfl rfl ?_
            refine z_iload_n (pc2 := 66) rfl rfl rfl ?_
            refine z_iret rfl rfl ?_
            exact hK _ (by omega)
          ·
            refine z_aload_n (pc2 := 9) rfl rfl rfl ?_
            refine z_getI (pc2 := 12) 0 rfl rfl rfl rfl rfl tq84 ?_
            intro v90 e90 r90 k90
            clear k90
            clear e90
            refine z_if_ne (t := 19) (pc2 := 15) rfl rfl rfl (by omega) (fun c91 => ?_) (fun c91 => ?_)
            ·
              refine z_iconst (pc2 := 20) rfl rfl ?_
              refine z_zret rfl rfl (by omega) ?_
              show zB _ _ _ _ _ _ [_, _] _ _
              refine z_if_eq (t := 62) (pc2 := 58) rfl rfl rfl (by omega) (fun c92 => ?_) (fun c92 => by exfalso; omega)
              refine z_iconst (pc2 := 63) rfl rfl ?_
              refine z_ior (pc2 := 64) rfl rfl (fun r93 => ?_)
              refine z_istore_n (lv2 := [(3, _), (0, _), (1, _), (2, _)]) (pc2 := 65) rfl rfl rfl rfl ?_
              refine z_iload_n (pc2 := 66) rfl rfl rfl ?_
              refine z_iret rfl rfl ?_
              exact hK _ (by omega)
            ·
              refine z_iconst (pc2 := 16) rfl rfl ?_
              refine z_goto (pc2 := 20) rfl rfl ?_
              refine z_zret rfl rfl (by omega) ?_
              show zB _ _ _ _ _ _ [_, _] _ _
              refine z_if_eq (t := 62) (pc2 := 58) rfl rfl rfl (by omega) (fun c95 => by exfalso; omega) (fun c95 => ?_)
              refine z_iconst (pc2 := 59) rfl rfl ?_
              refine z_goto (pc2 := 63) rfl rfl ?_
              refine z_ior (pc2 := 64) rfl rfl (fun r96 => ?_)
              refine z_istore_n (lv2 := [(3, _), (0, _), (1, _), (2, _)]) (pc2 := 65) rfl rfl rfl rfl ?_
              refine z_iload_n (pc2 := 66) rfl rfl rfl ?_
              refine z_iret rfl rfl ?_
              exact hK _ (by omega)
      ·
        refine z_aload_n (pc2 := 9) rfl rfl rfl ?_
        refine z_getI (pc2 := 12) 0 rfl rfl rfl rfl rfl tq75 ?_
        intro v98 e98 r98 k98
        clear k98
        clear e98
        refine z_aload_n (pc2 := 13) rfl rfl rfl ?_
        refine z_getI (pc2 := 16) 0 rfl rfl rfl rfl rfl tq75 ?_
        intro v99 e99 r99 k99
        clear k99
        clear e99
        refine z_iconst (pc2 := 17) rfl rfl ?_
        refine z_isub (pc2 := 18) rfl rfl ?_
        refine z_icmp_any (t := 25) (pc2 := 21) rfl rfl rfl ?_ ?_
        ·
          refine z_iconst (pc2 := 26) rfl rfl ?_
          refine z_zret rfl rfl (by omega) ?_
          show zB _ _ _ _ _ _ [_, _] _ _
          refine z_if_eq (t := 37) (pc2 := 33) rfl rfl rfl (by omega) (fun c100 => ?_) (fun c100 => by exfalso; omega)
          refine z_iconst (pc2 := 38) rfl rfl ?_
          refine z_ior (pc2 := 39) rfl rfl (fun r101 => ?_)
          refine z_istore_n (lv2 := [(3, _), (0, _), (1, _), (2, _)]) (pc2 := 40) rfl rfl rfl rfl ?_
          refine z_iload_n (pc2 := 41) rfl rfl rfl ?_
          refine z_aload_n (pc2 := 42) rfl rfl rfl ?_
          refine z_getP (pc2 := 45) rfl rfl rfl rfl t14 ?_
          intro p103 p103e p103k
          clear p103k; replace p103e : p103 = some x := by rw [p103e]; first | exact hfo | exact Eq.symm hfo | (simp [zU]; first | done | exact hfo | exact Eq.symm hfo | omega)
          subst p103e
          refine z_getP (pc2 := 48) rfl rfl rfl rfl tx.1 ?_
          intro p104 p104e p104k
          replace p104k : p104 = some (x + 4) := p104k; clear p104e; subst p104k
          refine z_iload_n (pc2 := 49) rfl rfl rfl ?_
          refine z_iconst (pc2 := 50) rfl rfl ?_
          refine z_isub (pc2 := 51) rfl rfl ?_
          refine z_aald (pc2 := 52) rfl rfl tx.2.2.2.2.1 rfl (by omega) (by omega) (by omega) ?_
          intro p105 p105e p105k
          rcases p105k with rfl | ⟨q106, rfl, q1069, tq106⟩
          ·
            exact (zNn hpre p105e (by omega)).elim
          ·
            replace tq106 : _ = ((1, 4, [1]) : zT) := tq106
            refine zB_le tq106 trivial (fun q106l => ?_)
            refine z_callV (y2 := 48) (as := []) (rest := [_]) (pc2 := 55) rfl rfl rfl rfl tq106 rfl ?_
            refine z_inl ?_
            refine z_lv (lv2 := [(0, _)]) ⟨rfl, trivial⟩ ?_
            refine z_aload_n (pc2 := 1) rfl rfl rfl ?_
            refine z_getI (pc2 := 4) 0 rfl rfl rfl rfl rfl tq106 ?_
            intro v107 e107 r107 k107
            clear k107
            clear e107
            refine z_iconst (pc2 := 5) rfl rfl ?_
            refine z_icmp_le (t := 19) (pc2 := 8) rfl rfl rfl (by omega) (by omega) (fun c108 => ?_) (fun c108 => ?_)
            ·
              refine z_iconst (pc2 := 20) rfl rfl ?_
              refine z_zret rfl rfl (by omega) ?_
              show zB _ _ _ _ _ _ [_, _] _ _
              refine z_if_eq (t := 62) (pc2 := 58) rfl rfl rfl (by omega) (fun c109 => ?_) (fun c109 => by exfalso; omega)
              refine z_iconst (pc2 := 63) rfl rfl ?_
              refine z_ior (pc2 := 64) rfl rfl (fun r110 => ?_)
              refine z_istore_n (lv2 := [(3, _), (0, _), (1, _), (2, _)]) (pc2 := 65) rfl rfl rfl rfl ?_
              refine z_iload_n (pc2 := 66) rfl rfl rfl ?_
              refine z_iret rfl rfl ?_
              exact hK _ (by omega)
            ·
              refine z_aload_n (pc2 := 9) rfl rfl rfl ?_
              refine z_getI (pc2 := 12) 0 rfl rfl rfl rfl rfl tq106 ?_
              intro v112 e112 r112 k112
              clear k112
              clear e112
              refine z_if_ne (t := 19) (pc2 := 15) rfl rfl rfl (by omega) (fun c113 => ?_) (fun c113 => ?_)
              ·
                refine z_iconst (pc2 := 20) rfl rfl ?_
                refine z_zret rfl rfl (by omega) ?_
                show zB _ _ _ _ _ _ [_, _] _ _
                refine z_if_eq (t := 62) (pc2 := 58) rfl rfl rfl (by omega) (fun c114 => ?_) (fun c114 => by exfalso; omega)
                refine z_iconst (pc2 := 63) rfl rfl ?_
                refine z_ior (pc2 := 64) rfl rfl (fun r115 => ?_)
                refine z_istore_n (lv2 := [(3, _), (0, _), (1, _), (2, _)]) (pc2 := 65) rfl rfl rfl rfl ?_
                refine z_iload_n (pc2 := 66) rfl rfl rfl ?_
                refine z_iret rfl rfl ?_
                exact hK _ (by omega)
              ·
                refine z_iconst (pc2 := 16) rfl rfl ?_
                refine z_goto (pc2 := 20) rfl rfl ?_
                refine z_zret rfl rfl (by omega) ?_
                show zB _ _ _ _ _ _ [_, _] _ _
                refine z_if_eq (t := 62) (pc2 := 58) rfl rfl rfl (by omega) (fun c117 => by exfalso; omega) (fun c117 => ?_)
                refine z_iconst (pc2 := 59) rfl rfl ?_
                refine z_goto (pc2 := 63) rfl rfl ?_
                refine z_ior (pc2 := 64) rfl rfl (fun r118 => ?_)
                refine z_istore_n (lv2 := [(3, _), (0, _), (1, _), (2, _)]) (pc2 := 65) rfl rfl rfl rfl ?_
                refine z_iload_n (pc2 := 66) rfl rfl rfl ?_
                refine z_iret rfl rfl ?_
                exact hK _ (by omega)
        ·
          refine z_iconst (pc2 := 22) rfl rfl ?_
          refine z_goto (pc2 := 26) rfl rfl ?_
          refine z_zret rfl rfl (by omega) ?_
          show zB _ _ _ _ _ _ [_, _] _ _
          refine z_if_eq (t := 37) (pc2 := 33) rfl rfl rfl (by omega) (fun c120 => by exfalso; omega) (fun c120 => ?_)
          refine z_iconst (pc2 := 34) rfl rfl ?_
          refine z_goto (pc2 := 38) rfl rfl ?_
          refine z_ior (pc2 := 39) rfl rfl (fun r121 => ?_)
          refine z_istore_n (lv2 := [(3, _), (0, _), (1, _), (2, _)]) (pc2 := 40) rfl rfl rfl rfl ?_
          refine z_iload_n (pc2 := 41) rfl rfl rfl ?_
          refine z_aload_n (pc2 := 42) rfl rfl rfl ?_
          refine z_getP (pc2 := 45) rfl rfl rfl rfl t14 ?_
          intro p123 p123e p123k
          clear p123k; replace p123e : p123 = some x := by rw [p123e]; first | exact hfo | exact Eq.symm hfo | (simp [zU]; first | done | exact hfo | exact Eq.symm hfo | omega)
          subst p123e
          refine z_getP (pc2 := 48) rfl rfl rfl rfl tx.1 ?_
          intro p124 p124e p124k
          replace p124k : p124 = some (x + 4) := p124k; clear p124e; subst p124k
          refine z_iload_n (pc2 := 49) rfl rfl rfl ?_
          refine z_iconst (pc2 := 50) rfl rfl ?_
          refine z_isub (pc2 := 51) rfl rfl ?_
          refine z_aald (pc2 := 52) rfl rfl tx.2.2.2.2.1 rfl (by omega) (by omega) (by omega) ?_
          intro p125 p125e p125k
          rcases p125k with rfl | ⟨q126, rfl, q1269, tq126⟩
          ·
            exact (zNn hpre p125e (by omega)).elim
          ·
            replace tq126 : _ = ((1, 4, [1]) : zT) := tq126
            refine zB_le tq126 trivial (fun q126l => ?_)
            refine z_callV (y2 := 48) (as := []) (rest := [_]) (pc2 := 55) rfl rfl rfl rfl tq126 rfl ?_
            refine z_inl ?_
            refine z_lv (lv2 := [(0, _)]) ⟨rfl, trivial⟩ ?_
            refine z_aload_n (pc2 := 1) rfl rfl rfl ?_
            refine z_getI (pc2 := 4) 0 rfl rfl rfl rfl rfl tq126 ?_
            intro v127 e127 r127 k127
            clear k127
            clear e127
            refine z_iconst (pc2 := 5) rfl rfl ?_
            refine z_icmp_le (t := 19) (pc2 := 8) rfl rfl rfl (by omega) (by omega) (fun c128 => ?_) (fun c128 => ?_)
            ·
              refine z_iconst (pc2 := 20) rfl rfl ?_
              refine z_zret rfl rfl (by omega) ?_
              show zB _ _ _ _ _ _ [_, _] _ _
              refine z_if_eq (t := 62) (pc2 := 58) rfl rfl rfl (by omega) (fun c129 => ?_) (fun c129 => by exfalso; omega)
              refine z_iconst (pc2 := 63) rfl rfl ?_
              refine z_ior (pc2 := 64) rfl rfl (fun r130 => ?_)
              refine z_istore_n (lv2 := [(3, _), (0, _), (1, _), (2, _)]) (pc2 := 65) rfl rfl rfl rfl ?_
              refine z_iload_n (pc2 := 66) rfl rfl rfl ?_
              refine z_iret rfl rfl ?_
              exact hK _ (by omega)
            ·
              refine z_aload_n (pc2 := 9) rfl rfl rfl ?_
              refine z_getI (pc2 := 12) 0 rfl rfl rfl rfl rfl tq126 ?_
              intro v132 e132 r132 k132
              clear k132
              clear e132
              refine z_if_ne (t := 19) (pc2 := 15) rfl rfl rfl (by omega) (fun c133 => ?_) (fun c133 => ?_)
              ·
                refine z_iconst (pc2 := 20) rfl rfl ?_
                refine z_zret rfl rfl (by omega) ?_
                show zB _ _ _ _ _ _ [_, _] _ _
                refine z_if_eq (t := 62) (pc2 := 58) rfl rfl rfl (by omega) (fun c134 => ?_) (fun c134 => by exfalso; omega)
                refine z_iconst (pc2 := 63) rfl rfl ?_
                refine z_ior (pc2 := 64) rfl rfl (fun r135 => ?_)
                refine z_istore_n (lv2 := [(3, _), (0, _), (1, _), (2, _)]) (pc2 := 65) rfl rfl rfl rfl ?_
                refine z_iload_n (pc2 := 66) rfl rfl rfl ?_
                refine z_iret rfl rfl ?_
                exact hK _ (by omega)
              ·
                refine z_iconst (pc2 := 16) rfl rfl ?_
                refine z_goto (pc2 := 20) rfl rfl ?_
                refine z_zret rfl rfl (by omega) ?_
                show zB _ _ _ _ _ _ [_, _] _ _
                refine z_if_eq (t := 62) (pc2 := 58) rfl rfl rfl (by omega) (fun c137 => by exfalso; omega) (fun c137 => ?_)
                refine z_iconst (pc2 := 59) rfl rfl ?_
                refine z_goto (pc2 := 63) rfl rfl ?_
                refine z_ior (pc2 := 64) rfl rfl (fun r138 => ?_)
                refine z_istore_n (lv2 := [(3, _), (0, _), (1, _), (2, _)]) (pc2 := 65) rfl rfl rfl rfl ?_
                refine z_iload_n (pc2 := 66) rfl rfl rfl ?_
                refine z_iret rfl rfl ?_
                exact hK _ (by omega)
set_option maxHeartbeats 8000000 in
theorem c_Pager_badnessOf {L : Nat} {xs : Nat → Int32} {n sl : Nat} {T : Nat → zT} {I : Nat → Nat → Int} {P : Nat → Nat → Option Nat} {G : Nat → Nat → Int} {K : List zV → zH → Prop} {a c N : Int} {x rn : Nat} (hn : 90 ≤ n) (hC : ∀ a, 1 ≤ a → a ≤ 55 → T a = zFixC a) (ha : 0 ≤ a ∧ a ≤ 88) (hc : 1 ≤ c ∧ c ≤ 89) (hN : 0 ≤ N ∧ N ≤ 89) (ix : x = 23 ∨ x = 30 ∨ x = 42 ∨ x = 49) (hac : a < c ∧ c ≤ N) (hfo : P 14 3 = some x) (hnh : P 14 4 = some rn) (hrn : rn = 22 ∨ rn = 41) (trn : T rn = (2, 0, [12, 12])) (hpre : ∀ j : Nat, (j : Int) < N → ∃ q, P (x + 4) j = some q) (hN : I x 6 = N) (hK : ∀ e, (-2200000000 ≤ e ∧ e ≤ 2200000000) → K [.inr (.inr e)] (n, sl, T, I, P, G)) : zX zMd L xs 57 [.inr (.inl (some 14)), .inl a, .inl c] (n, sl, T, I, P, G) K := by
  have t14 : T 14 = (1, 6, [1]) := hC 14 (by decide) (by decide)
  have tx := zFl_t hC ix
  refine z_inl ?_
  refine z_lv (lv2 := [(0, _), (1, _), (2, _)]) ⟨rfl, rfl, rfl, trivial⟩ ?_
  refine z_aload_n (pc2 := 1) rfl rfl rfl ?_
  refine z_iload_n (pc2 := 2) rfl rfl rfl ?_
  refine z_iload_n (pc2 := 3) rfl rfl rfl ?_
  refine z_callV (y2 := 60) (as := [_, _]) (rest := []) (pc2 := 6) rfl rfl rfl rfl t14 rfl ?_
  refine c_Pager_howIs (N := N) hn hC (by omega) (by omega) (by omega) ix (by omega) hfo hnh hrn trn hpre hN (fun w1 w1r => ?_)
  show zB _ _ _ _ _ _ [_] _ _
  refine z_istore_n (lv2 := [(3, _), (0, _), (1, _), (2, _)]) (pc2 := 7) rfl rfl rfl rfl ?_
  refine z_lconst 0 (pc2 := 8) rfl rfl rfl ?_
  refine z_lstore (lv2 := [(4, _), (3, _), (0, _), (1, _), (2, _)]) (pc2 := 10) rfl rfl rfl rfl ?_
  refine z_aload_n (pc2 := 11) rfl rfl rfl ?_
  refine z_getI (pc2 := 14) 0 rfl rfl rfl rfl rfl t14 ?_
  intro v2 e2 r2 k2
  clear k2
  clear e2
  refine z_aload_n (pc2 := 15) rfl rfl rfl ?_
  refine z_getI (pc2 := 18) 0 rfl rfl rfl rfl rfl t14 ?_
  intro v3 e3 r3 k3
  clear k3
  clear e3
  refine z_icmp_le (t := 39) (pc2 := 21) rfl rfl rfl (by omega) (by omega) (fun c4 => ?_) (fun c4 => ?_)
  ·
    refine z_iload_n (pc2 := 40) rfl rfl rfl ?_
    refine z_aload_n (pc2 := 41) rfl rfl rfl ?_
    refine z_getP (pc2 := 44) rfl rfl rfl rfl t14 ?_
    intro p5 p5e p5k
    clear p5k; replace p5e : p5 = some x := by rw [p5e]; first | exact hfo | exact Eq.symm hfo | (simp [zU]; first | done | exact hfo | exact Eq.symm hfo | omega)
    subst p5e
    refine z_getI (pc2 := 47) 0 rfl rfl rfl rfl rfl tx.1 ?_
    intro v6 e6 r6 k6
    replace k6 : (0 : Int) ≤ v6 ∧ v6 ≤ 89 := k6
    replace e6 : N = v6 := by rw [e6]; first | exact hN | exact Eq.symm hN | (simp [zU]; first | done | exact hN | exact Eq.symm hN | omega)
    subst e6
    refine z_icmp_ge (t := 72) (pc2 := 50) rfl rfl rfl (by omega) (by omega) (fun c7 => ?_) (fun c7 => ?_)
    ·
      refine z_lload (pc2 := 74) rfl rfl rfl ?_
      refine z_iload_n (pc2 := 75) rfl rfl rfl ?_
      refine z_iconst (pc2 := 76) rfl rfl ?_
      refine z_and_1 (pc2 := 77) rfl rfl ?_
      refine z_if_eq (t := 86) (pc2 := 80) rfl rfl rfl (by omega) (fun c9 => ?_) (fun c9 => ?_)
      ·
        refine z_lconst 0 (pc2 := 87) rfl rfl rfl ?_
        refine z_ladd (pc2 := 88) rfl rfl ?_
        refine z_lstore (lv2 := [(4, _), (3, _), (0, _), (1, _), (2, _)]) (pc2 := 90) rfl rfl rfl rfl ?_
        refine z_lload (pc2 := 92) rfl rfl rfl ?_
        refine z_iload_n (pc2 := 93) rfl rfl rfl ?_
        refine z_iconst (pc2 := 94) rfl rfl ?_
        refine z_iand (pc2 := 95) rfl rfl (fun r10 => ?_)
        refine z_if_eq (t := 104) (pc2 := 98) rfl rfl rfl (by omega) (fun c12 => ?_) (fun c12 => ?_)
        ·
          refine z_lconst 0 (pc2 := 105) rfl rfl rfl ?_
          refine z_ladd (pc2 := 106) rfl rfl ?_
          refine z_lstore (lv2 := [(4, _), (3, _), (0, _), (1, _), (2, _)]) (pc2 := 108) rfl rfl rfl rfl ?_
          refine z_lload (pc2 := 110) rfl rfl rfl ?_
          refine z_lret rfl rfl ?_
          exact hK _ (by omega)
        ·
          refine z_ldc2 (1000000) (pc2 := 101) rfl rfl rfl ?_
          refine z_goto (pc2 := 105) rfl rfl ?_
          refine z_ladd (pc2 := 106) rfl rfl ?_
          refine z_lstore (lv2 := [(4, _), (3, _), (0, _), (1, _), (2, _)]) (pc2 := 108) rfl rfl rfl rfl ?_
          refine z_lload (pc2 := 110) rfl rfl rfl ?_
          refine z_lret rfl rfl ?_
          exact hK _ (by omega)
      ·
        refine z_ldc2 (1000000) (pc2 := 83) rfl rfl rfl ?_
        refine z_goto (pc2 := 87) rfl rfl ?_
        refine z_ladd (pc2 := 88) rfl rfl ?_
        refine z_lstore (lv2 := [(4, _), (3, _), (0, _), (1, _), (2, _)]) (pc2 := 90) rfl rfl rfl rfl ?_
        refine z_lload (pc2 := 92) rfl rfl rfl ?_
        refine z_iload_n (pc2 := 93) rfl rfl rfl ?_
        refine z_iconst (pc2 := 94) rfl rfl ?_
        refine z_iand (pc2 := 95) rfl rfl (fun r13 => ?_)
        refine z_if_eq (t := 104) (pc2 := 98) rfl rfl rfl (by omega) (fun c15 => ?_) (fun c15 => ?_)
        ·
          refine z_lconst 0 (pc2 := 105) rfl rfl rfl ?_
          refine z_ladd (pc2 := 106) rfl rfl ?_
          refine z_lstore (lv2 := [(4, _), (3, _), (0, _), (1, _), (2, _)]) (pc2 := 108) rfl rfl rfl rfl ?_
          refine z_lload (pc2 := 110) rfl rfl rfl ?_
          refine z_lret rfl rfl ?_
          exact hK _ (by omega)
        ·
          refine z_ldc2 (1000000) (pc2 := 101) rfl rfl rfl ?_
          refine z_goto (pc2 := 105) rfl rfl ?_
          refine z_ladd (pc2 := 106) rfl rfl ?_
          refine z_lstore (lv2 := [(4, _), (3, _), (0, _), (1, _), (2, _)]) (pc2 := 108) rfl rfl rfl rfl ?_
          refine z_lload (pc2 := 110) rfl rfl rfl ?_
          refine z_lret rfl rfl ?_
          exact hK _ (by omega)
    ·
      refine z_aload_n (pc2 := 51) rfl rfl rfl ?_
      refine z_getI (pc2 := 54) 0 rfl rfl rfl rfl rfl t14 ?_
      intro v16 e16 r16 k16
      clear k16
      clear e16
      refine z_aload_n (pc2 := 55) rfl rfl rfl ?_
      refine z_getI (pc2 := 58) 0 rfl rfl rfl rfl rfl t14 ?_
      intro v17 e17 r17 k17
      clear k17
      clear e17
      refine z_isub (pc2 := 59) rfl rfl ?_
      refine z_aload_n (pc2 := 60) rfl rfl rfl ?_
      refine z_getI (pc2 := 63) 0 rfl rfl rfl rfl rfl t14 ?_
      intro v18 e18 r18 k18
      clear k18
      clear e18
      refine z_aload_n (pc2 := 64) rfl rfl rfl ?_
      refine z_getI (pc2 := 67) 0 rfl rfl rfl rfl rfl t14 ?_
      intro v19 e19 r19 k19
      clear k19
      clear e19
      refine z_isub (pc2 := 68) rfl rfl ?_
      refine z_imul (pc2 := 69) rfl rfl ?_
      refine z_i2l_r (pc2 := 70) rfl rfl (fun g21 g21r => ?_)
      refine z_lstore (lv2 := [(4, _), (3, _), (0, _), (1, _), (2, _)]) (pc2 := 72) rfl rfl rfl rfl ?_
      refine z_lload (pc2 := 74) rfl rfl rfl ?_
      refine z_iload_n (pc2 := 75) rfl rfl rfl ?_
      refine z_iconst (pc2 := 76) rfl rfl ?_
      refine z_and_1 (pc2 := 77) rfl rfl ?_
      refine z_if_eq (t := 86) (pc2 := 80) rfl rfl rfl (by omega) (fun c23 => ?_) (fun c23 => ?_)
      ·
        refine z_lconst 0 (pc2 := 87) rfl rfl rfl ?_
        refine z_ladd (pc2 := 88) rfl rfl ?_
        refine z_lstore (lv2 := [(4, _), (3, _), (0, _), (1, _), (2, _)]) (pc2 := 90) rfl rfl rfl rfl ?_
        refine z_lload (pc2 := 92) rfl rfl rfl ?_
        refine z_iload_n (pc2 := 93) rfl rfl rfl ?_
        refine z_iconst (pc2 := 94) rfl rfl ?_
        refine z_iand (pc2 := 95) rfl rfl (fun r24 => ?_)
        refine z_if_eq (t := 104) (pc2 := 98) rfl rfl rfl (by omega) (fun c26 => ?_) (fun c26 => ?_)
        ·
          refine z_lconst 0 (pc2 := 105) rfl rfl rfl ?_
          refine z_ladd (pc2 := 106) rfl rfl ?_
          refine z_lstore (lv2 := [(4, _), (3, _), (0, _), (1, _), (2, _)]) (pc2 := 108) rfl rfl rfl rfl ?_
          refine z_lload (pc2 := 110) rfl rfl rfl ?_
          refine z_lret rfl rfl ?_
          exact hK _ (by omega)
        ·
          refine z_ldc2 (1000000) (pc2 := 101) rfl rfl rfl ?_
          refine z_goto (pc2 := 105) rfl rfl ?_
          refine z_ladd (pc2 := 106) rfl rfl ?_
          refine z_lstore (lv2 := [(4, _), (3, _), (0, _), (1, _), (2, _)]) (pc2 := 108) rfl rfl rfl rfl ?_
          refine z_lload (pc2 := 110) rfl rfl rfl ?_
          refine z_lret rfl rfl ?_
          exact hK _ (by omega)
      ·
        refine z_ldc2 (1000000) (pc2 := 83) rfl rfl rfl ?_
        refine z_goto (pc2 := 87) rfl rfl ?_
        refine z_ladd (pc2 := 88) rfl rfl ?_
        refine z_lstore (lv2 := [(4, _), (3, _), (0, _), (1, _), (2, _)]) (pc2 := 90) rfl rfl rfl rfl ?_
        refine z_lload (pc2 := 92) rfl rfl rfl ?_
        refine z_iload_n (pc2 := 93) rfl rfl rfl ?_
        refine z_iconst (pc2 := 94) rfl rfl ?_
        refine z_iand (pc2 := 95) rfl rfl (fun r27 => ?_)
        refine z_if_eq (t := 104) (pc2 := 98) rfl rfl rfl (by omega) (fun c29 => ?_) (fun c29 => ?_)
        ·
          refine z_lconst 0 (pc2 := 105) rfl rfl rfl ?_
          refine z_ladd (pc2 := 106) rfl rfl ?_
          refine z_lstore (lv2 := [(4, _), (3, _), (0, _), (1, _), (2, _)]) (pc2 := 108) rfl rfl rfl rfl ?_
          refine z_lload (pc2 := 110) rfl rfl rfl ?_
          refine z_lret rfl rfl ?_
          exact hK _ (by omega)
        ·
          refine z_ldc2 (1000000) (pc2 := 101) rfl rfl rfl ?_
          refine z_goto (pc2 := 105) rfl rfl ?_
          refine z_ladd (pc2 := 106) rfl rfl ?_
          refine z_lstore (lv2 := [(4, _), (3, _), (0, _), (1, _), (2, _)]) (pc2 := 108) rfl rfl rfl rfl ?_
          refine z_lload (pc2 := 110) rfl rfl rfl ?_
          refine z_lret rfl rfl ?_
          exact hK _ (by omega)
  ·
    refine z_ldc (100000000) (pc2 := 23) rfl rfl rfl ?_
    refine z_aload_n (pc2 := 24) rfl rfl rfl ?_
    refine z_getI (pc2 := 27) 0 rfl rfl rfl rfl rfl t14 ?_
    intro v30 e30 r30 k30
    clear k30
    clear e30
    refine z_iadd (pc2 := 28) rfl rfl ?_
    refine z_aload_n (pc2 := 29) rfl rfl rfl ?_
    refine z_getI (pc2 := 32) 0 rfl rfl rfl rfl rfl t14 ?_
    intro v31 e31 r31 k31
    clear k31
    clear e31
    refine z_isub (pc2 := 33) rfl rfl ?_
    refine z_i2l_r (pc2 := 34) rfl rfl (fun g32 g32r => ?_)
    refine z_lstore (lv2 := [(4, _), (3, _), (0, _), (1, _), (2, _)]) (pc2 := 36) rfl rfl rfl rfl ?_
    refine z_goto (pc2 := 72) rfl rfl ?_
    refine z_lload (pc2 := 74) rfl rfl rfl ?_
    refine z_iload_n (pc2 := 75) rfl rfl rfl ?_
    refine z_iconst (pc2 := 76) rfl rfl ?_
    refine z_and_1 (pc2 := 77) rfl rfl ?_
    refine z_if_eq (t := 86) (pc2 := 80) rfl rfl rfl (by omega) (fun c34 => ?_) (fun c34 => ?_)
    ·
      refine z_lconst 0 (pc2 := 87) rfl rfl rfl ?_
      refine z_ladd (pc2 := 88) rfl rfl ?_
      refine z_lstore (lv2 := [(4, _), (3, _), (0, _), (1, _), (2, _)]) (pc2 := 90) rfl rfl rfl rfl ?_
      refine z_lload (pc2 := 92) rfl rfl rfl ?_
      refine z_iload_n (pc2 := 93) rfl rfl rfl ?_
      refine z_iconst (pc2 := 94) rfl rfl ?_
      refine z_iand (pc2 := 95) rfl rfl (fun r35 => ?_)
      refine z_if_eq (t := 104) (pc2 := 98) rfl rfl rfl (by omega) (fun c37 => ?_) (fun c37 => ?_)
      ·
        refine z_lconst 0 (pc2 := 105) rfl rfl rfl ?_
        refine z_ladd (pc2 := 106) rfl rfl ?_
        refine z_lstore (lv2 := [(4, _), (3, _), (0, _), (1, _), (2, _)]) (pc2 := 108) rfl rfl rfl rfl ?_
        refine z_lload (pc2 := 110) rfl rfl rfl ?_
        refine z_lret rfl rfl ?_
        exact hK _ (by omega)
      ·
        refine z_ldc2 (1000000) (pc2 := 101) rfl rfl rfl ?_
        refine z_goto (pc2 := 105) rfl rfl ?_
        refine z_ladd (pc2 := 106) rfl rfl ?_
        refine z_lstore (lv2 := [(4, _), (3, _), (0, _), (1, _), (2, _)]) (pc2 := 108) rfl rfl rfl rfl ?_
        refine z_lload (pc2 := 110) rfl rfl rfl ?_
        refine z_lret rfl rfl ?_
        exact hK _ (by omega)
    ·
      refine z_ldc2 (1000000) (pc2 := 83) rfl rfl rfl ?_
      refine z_goto (pc2 := 87) rfl rfl ?_
      refine z_ladd (pc2 := 88) rfl rfl ?_
      refine z_lstore (lv2 := [(4, _), (3, _), (0, _), (1, _), (2, _)]) (pc2 := 90) rfl rfl rfl rfl ?_
      refine z_lload (pc2 := 92) rfl rfl rfl ?_
      refine z_iload_n (pc2 := 93) rfl rfl rfl ?_
      refine z_iconst (pc2 := 94) rfl rfl ?_
      refine z_iand (pc2 := 95) rfl rfl (fun r38 => ?_)
      refine z_if_eq (t := 104) (pc2 := 98) rfl rfl rfl (by omega) (fun c40 => ?_) (fun c40 => ?_)
      ·
        refine z_lconst 0 (pc2 := 105) rfl rfl rfl ?_
        refine z_ladd (pc2 := 106) rfl rfl ?_
        refine z_lstore (lv2 := [(4, _), (3, _), (0, _), (1, _), (2, _)]) (pc2 := 108) rfl rfl rfl rfl ?_
        refine z_lload (pc2 := 110) rfl rfl rfl ?_
        refine z_lret rfl rfl ?_
        exact hK _ (by omega)
      ·
        refine z_ldc2 (1000000) (pc2 := 101) rfl rfl rfl ?_
        refine z_goto (pc2 := 105) rfl rfl ?_
        refine z_ladd (pc2 := 106) rfl rfl ?_
        refine z_lstore (lv2 := [(4, _), (3, _), (0, _), (1, _), (2, _)]) (pc2 := 108) rfl rfl rfl rfl ?_
        refine z_lload (pc2 := 110) rfl rfl rfl ?_
        refine z_lret rfl rfl ?_
        exact hK _ (by omega)
set_option maxHeartbeats 8000000 in
theorem cl_Pager_linesFilling {L : Nat} {xs : Nat → Int32} {n sl : Nat} {T : Nat → zT} {I : Nat → Nat → Int} {P : Nat → Nat → Option Nat} {K : List zV → zH → Prop} {a N : Int} {x rn : Nat} (hn : 90 ≤ n) (hC : ∀ a, 1 ≤ a → a ≤ 55 → T a = zFixC a) (ha : 0 ≤ a ∧ a ≤ 88) (hN : 1 ≤ N ∧ N ≤ 89) (ix : x = 23 ∨ x = 30 ∨ x = 42 ∨ x = 49) (haN : a < N) (hfo : P 14 3 = some x) (hnh : P 14 4 = some rn) (hrn : rn = 22 ∨ rn = 41) (trn : T rn = (2, 0, [12, 12])) (hpre : ∀ j : Nat, (j : Int) < N → ∃ q, P (x + 4) j = some q) (hN : I x 6 = N) (hK : ∀ e I2 G2, zPgr I I2 → (1 ≤ e ∧ e ≤ N - a) → K [.inl e] (n, sl, T, I2, P, G2)) (m : Nat) : ∀ (I2 : Nat → Nat → Int) (G2 : Nat → Nat → Int), ∀ (k : Int), 1 ≤ k ∧ k ≤ 89 → zPgr I I2 → a + 1 ≤ k ∧ k ≤ N → I2 14 7 = zPop (I2 14 8) → (89 - k).toNat < m → zB zMd L xs 58 21 [(0, .inr (.inl (some 14))), (1, .inl a), (2, .inl k)] [] (n, sl, T, I2, P, G2) K := by
  have t14 : T 14 = (1, 6, [1]) := hC 14 (by decide) (by decide)
  have tx := zFl_t hC ix
  induction m with
  | zero => intro I2 G2 k hk hI2 hb3 hpop hm; omega
  | succ m ih =>
    intro I2 G2 k hk hI2 hb3 hpop hm
    refine z_iload_n (pc2 := 22) rfl rfl rfl ?_
    refine z_aload_n (pc2 := 23) rfl rfl rfl ?_
    refine z_getP (pc2 := 26) rfl rfl rfl rfl t14 ?_
    intro p1 p1e p1k
    clear p1k; replace p1e : p1 = some x := by rw [p1e]; first | exact hfo | exact Eq.symm hfo | (simp [zU]; first | done | exact hfo | exact Eq.symm hfo | omega)
    subst p1e
    refine z_getI (pc2 := 29) 0 rfl rfl rfl rfl rfl tx.1 ?_
    intro v2 e2 r2 k2
    replace k2 : (0 : Int) ≤ v2 ∧ v2 ≤ 89 := k2
    replace e2 : N = v2 := by rw [e2]; first | exact ((hI2 x 6 (by omega) (by omega)).trans hN) | exact Eq.symm ((hI2 x 6 (by omega) (by omega)).trans hN) | (simp [zU]; first | done | exact ((hI2 x 6 (by omega) (by omega)).trans hN) | exact Eq.symm ((hI2 x 6 (by omega) (by omega)).trans hN) | omega)
    subst e2
    refine z_icmp_ge (t := 65) (pc2 := 32) rfl rfl rfl (by omega) (by omega) (fun c3 => ?_) (fun c3 => ?_)
    ·
      refine z_iload_n (pc2 := 66) rfl rfl rfl ?_
      refine z_aload_n (pc2 := 67) rfl rfl rfl ?_
      refine z_getP (pc2 := 70) rfl rfl rfl rfl t14 ?_
      intro p4 p4e p4k
      clear p4k; replace p4e : p4 = some x := by rw [p4e]; first | exact hfo | exact Eq.symm hfo | (simp [zU]; first | done | exact hfo | exact Eq.symm hfo | omega)
      subst p4e
      refine z_getI (pc2 := 73) 0 rfl rfl rfl rfl rfl tx.1 ?_
      intro v5 e5 r5 k5
      replace k5 : (0 : Int) ≤ v5 ∧ v5 ≤ 89 := k5
      replace e5 : N = v5 := by rw [e5]; first | exact ((hI2 x 6 (by omega) (by omega)).trans hN) | exact Eq.symm ((hI2 x 6 (by omega) (by omega)).trans hN) | (simp [zU]; first | done | exact ((hI2 x 6 (by omega) (by omega)).trans hN) | exact Eq.symm ((hI2 x 6 (by omega) (by omega)).trans hN) | omega)
      subst e5
      refine z_icmp_ge (t := 95) (pc2 := 76) rfl rfl rfl (by omega) (by omega) (fun c6 => ?_) (fun c6 => ?_)
      ·
        refine z_iconst (pc2 := 96) rfl rfl ?_
        refine z_istore_n (lv2 := [(3, _), (0, _), (1, _), (2, _)]) (pc2 := 97) rfl rfl rfl rfl ?_
        refine z_iload_n (pc2 := 98) rfl rfl rfl ?_
        refine z_if_ne (t := 118) (pc2 := 101) rfl rfl rfl (by omega) (fun c7 => by exfalso; omega) (fun c7 => ?_)
        refine z_aload_n (pc2 := 102) rfl rfl rfl ?_
        refine z_getP (pc2 := 105) rfl rfl rfl rfl t14 ?_
        intro p8 p8e p8k
        clear p8k; replace p8e : p8 = some x := by rw [p8e]; first | exact hfo | exact Eq.symm hfo | (simp [zU]; first | done | exact hfo | exact Eq.symm hfo | omega)
        subst p8e
        refine z_getP (pc2 := 108) rfl rfl rfl rfl tx.1 ?_
        intro p9 p9e p9k
        replace p9k : p9 = some (x + 4) := p9k; clear p9e; subst p9k
        refine z_iload_n (pc2 := 109) rfl rfl rfl ?_
        refine z_iconst (pc2 := 110) rfl rfl ?_
        refine z_isub (pc2 := 111) rfl rfl ?_
        refine z_aald (pc2 := 112) rfl rfl tx.2.2.2.2.1 rfl (by omega) (by omega) (by omega) ?_
        intro p10 p10e p10k
        rcases p10k with rfl | ⟨q11, rfl, q119, tq11⟩
        ·
          exact (zNn hpre p10e (by omega)).elim
        ·
          replace tq11 : _ = ((1, 4, [1]) : zT) := tq11
          refine zB_le tq11 trivial (fun q11l => ?_)
          refine z_callV (y2 := 48) (as := []) (rest := []) (pc2 := 115) rfl rfl rfl rfl tq11 rfl ?_
          refine z_inl ?_
          refine z_lv (lv2 := [(0, _)]) ⟨rfl, trivial⟩ ?_
          refine z_aload_n (pc2 := 1) rfl rfl rfl ?_
          refine z_getI (pc2 := 4) 0 rfl rfl rfl rfl rfl tq11 ?_
          intro v12 e12 r12 k12
          clear k12
          clear e12
          refine z_iconst (pc2 := 5) rfl rfl ?_
          refine z_icmp_le (t := 19) (pc2 := 8) rfl rfl rfl (by omega) (by omega) (fun c13 => ?_) (fun c13 => ?_)
          ·
            refine z_iconst (pc2 := 20) rfl rfl ?_
            refine z_zret rfl rfl (by omega) ?_
            show zB _ _ _ _ _ _ [_] _ _
            refine z_if_eq (t := 122) (pc2 := 118) rfl rfl rfl (by omega) (fun c14 => ?_) (fun c14 => by exfalso; omega)
            refine z_iconst (pc2 := 123) rfl rfl ?_
            refine z_istore (lv2 := [(4, _), (3, _), (0, _), (1, _), (2, _)]) (pc2 := 125) rfl rfl rfl rfl ?_
            refine z_iload (pc2 := 127) rfl rfl rfl ?_
            refine z_if_eq (t := 145) (pc2 := 130) rfl rfl rfl (by omega) (fun c15 => ?_) (fun c15 => by exfalso; omega)
            refine z_iload_n (pc2 := 146) rfl rfl rfl ?_
            refine z_iload_n (pc2 := 147) rfl rfl rfl ?_
            refine z_isub (pc2 := 148) rfl rfl ?_
            refine z_iret rfl rfl ?_
            exact hK _ _ _ hI2 (by omega)
          ·
            refine z_aload_n (pc2 := 9) rfl rfl rfl ?_
            refine z_getI (pc2 := 12) 0 rfl rfl rfl rfl rfl tq11 ?_
            intro v16 e16 r16 k16
            clear k16
            clear e16
            refine z_if_ne (t := 19) (pc2 := 15) rfl rfl rfl (by omega) (fun c17 => ?_) (fun c17 => ?_)
            ·
              refine z_iconst (pc2 := 20) rfl rfl ?_
              refine z_zret rfl rfl (by omega) ?_
              show zB _ _ _ _ _ _ [_] _ _
              refine z_if_eq (t := 122) (pc2 := 118) rfl rfl rfl (by omega) (fun c18 => ?_) (fun c18 => by exfalso; omega)
              refine z_iconst (pc2 := 123) rfl rfl ?_
              refine z_istore (lv2 := [(4, _), (3, _), (0, _), (1, _), (2, _)]) (pc2 := 125) rfl rfl rfl rfl ?_
              refine z_iload (pc2 := 127) rfl rfl rfl ?_
              refine z_if_eq (t := 145) (pc2 := 130) rfl rfl rfl (by omega) (fun c19 => ?_) (fun c19 => by exfalso; omega)
              refine z_iload_n (pc2 := 146) rfl rfl rfl ?_
              refine z_iload_n (pc2 := 147) rfl rfl rfl ?_
              refine z_isub (pc2 := 148) rfl rfl ?_
              refine z_iret rfl rfl ?_
              exact hK _ _ _ hI2 (by omega)
            ·
              refine z_iconst (pc2 := 16) rfl rfl ?_
              refine z_goto (pc2 := 20) rfl rfl ?_
              refine z_zret rfl rfl (by omega) ?_
              show zB _ _ _ _ _ _ [_] _ _
              refine z_if_eq (t := 122) (pc2 := 118) rfl rfl rfl (by omega) (fun c20 => by exfalso; omega) (fun c20 => ?_)
              refine z_iconst (pc2 := 119) rfl rfl ?_
              refine z_goto (pc2 := 123) rfl rfl ?_
              refine z_istore (lv2 := [(4, _), (3, _), (0, _), (1, _), (2, _)]) (pc2 := 125) rfl rfl rfl rfl ?_
              refine z_iload (pc2 := 127) rfl rfl rfl ?_
              refine z_if_eq (t := 145) (pc2 := 130) rfl rfl rfl (by omega) (fun c21 => by exfalso; omega) (fun c21 => ?_)
              refine z_iload_n (pc2 := 131) rfl rfl rfl ?_
              refine z_iload_n (pc2 := 132) rfl rfl rfl ?_
              refine z_isub (pc2 := 133) rfl rfl ?_
              refine z_iconst (pc2 := 134) rfl rfl ?_
              refine z_icmp_lt (t := 145) (pc2 := 137) rfl rfl rfl (by omega) (by omega) (fun c22 => ?_) (fun c22 => ?_)
              ·
                refine z_iload_n (pc2 := 146) rfl rfl rfl ?_
                refine z_iload_n (pc2 := 147) rfl rfl rfl ?_
                refine z_isub (pc2 := 148) rfl rfl ?_
                refine z_iret rfl rfl ?_
                exact hK _ _ _ hI2 (by omega)
              ·
                refine z_iload_n (pc2 := 138) rfl rfl rfl ?_
                refine z_iload_n (pc2 := 139) rfl rfl rfl ?_
                refine z_isub (pc2 := 140) rfl rfl ?_
                refine z_iconst (pc2 := 141) rfl rfl ?_
                refine z_isub (pc2 := 142) rfl rfl ?_
                refine z_goto (pc2 := 148) rfl rfl ?_
                refine z_iret rfl rfl ?_
                exact hK _ _ _ hI2 (by omega)
      ·
        refine z_aload_n (pc2 := 77) rfl rfl rfl ?_
        refine z_getP (pc2 := 80) rfl rfl rfl rfl t14 ?_
        intro p23 p23e p23k
        clear p23k; replace p23e : p23 = some x := by rw [p23e]; first | exact hfo | exact Eq.symm hfo | (simp [zU]; first | done | exact hfo | exact Eq.symm hfo | omega)
        subst p23e
        refine z_getP (pc2 := 83) rfl rfl rfl rfl tx.1 ?_
        intro p24 p24e p24k
        replace p24k : p24 = some (x + 4) := p24k; clear p24e; subst p24k
        refine z_iload_n (pc2 := 84) rfl rfl rfl ?_
        refine z_aald (pc2 := 85) rfl rfl tx.2.2.2.2.1 rfl (by omega) (by omega) (by omega) ?_
        intro p25 p25e p25k
        rcases p25k with rfl | ⟨q26, rfl, q269, tq26⟩
        ·
          exact (zNn hpre p25e (by omega)).elim
        ·
          replace tq26 : _ = ((1, 4, [1]) : zT) := tq26
          refine zB_le tq26 trivial (fun q26l => ?_)
          refine z_callV (y2 := 47) (as := []) (rest := []) (pc2 := 88) rfl rfl rfl rfl tq26 rfl ?_
          refine z_inl ?_
          refine z_lv (lv2 := [(0, _)]) ⟨rfl, trivial⟩ ?_
          refine z_aload_n (pc2 := 1) rfl rfl rfl ?_
          refine z_getI (pc2 := 4) 0 rfl rfl rfl rfl rfl tq26 ?_
          intro v27 e27 r27 k27
          clear k27
          clear e27
          refine z_iconst (pc2 := 5) rfl rfl ?_
          refine z_icmp_le (t := 25) (pc2 := 8) rfl rfl rfl (by omega) (by omega) (fun c28 => ?_) (fun c28 => ?_)
          ·
            refine z_iconst (pc2 := 26) rfl rfl ?_
            refine z_zret rfl rfl (by omega) ?_
            show zB _ _ _ _ _ _ [_] _ _
            refine z_if_eq (t := 95) (pc2 := 91) rfl rfl rfl (by omega) (fun c29 => ?_) (fun c29 => by exfalso; omega)
            refine z_iconst (pc2 := 96) rfl rfl ?_
            refine z_istore_n (lv2 := [(3, _), (0, _), (1, _), (2, _)]) (pc2 := 97) rfl rfl rfl rfl ?_
            refine z_iload_n (pc2 := 98) rfl rfl rfl ?_
            refine z_if_ne (t := 118) (pc2 := 101) rfl rfl rfl (by omega) (fun c30 => by exfalso; omega) (fun c30 => ?_)
            refine z_aload_n (pc2 := 102) rfl rfl rfl ?_
            refine z_getP (pc2 := 105) rfl rfl rfl rfl t14 ?_
            intro p31 p31e p31k
            clear p31k; replace p31e : p31 = some x := by rw [p31e]; first | exact hfo | exact Eq.symm hfo | (simp [zU]; first | done | exact hfo | exact Eq.symm hfo | omega)
            subst p31e
            refine z_getP (pc2 := 108) rfl rfl rfl rfl tx.1 ?_
            intro p32 p32e p32k
            replace p32k : p32 = some (x + 4) := p32k; clear p32e; subst p32k
            refine z_iload_n (pc2 := 109) rfl rfl rfl ?_
            refine z_iconst (pc2 := 110) rfl rfl ?_
            refine z_isub (pc2 := 111) rfl rfl ?_
            refine z_aald (pc2 := 112) rfl rfl tx.2.2.2.2.1 rfl (by omega) (by omega) (by omega) ?_
            intro p33 p33e p33k
            rcases p33k with rfl | ⟨q34, rfl, q349, tq34⟩
            ·
              exact (zNn hpre p33e (by omega)).elim
            ·
              replace tq34 : _ = ((1, 4, [1]) : zT) := tq34
              refine zB_le tq34 trivial (fun q34l => ?_)
              refine z_callV (y2 := 48) (as := []) (rest := []) (pc2 := 115) rfl rfl rfl rfl tq34 rfl ?_
              refine z_inl ?_
              refine z_lv (lv2 := [(0, _)]) ⟨rfl, trivial⟩ ?_
              refine z_aload_n (pc2 := 1) rfl rfl rfl ?_
              refine z_getI (pc2 := 4) 0 rfl rfl rfl rfl rfl tq34 ?_
              intro v35 e35 r35 k35
              clear k35
              clear e35
              refine z_iconst (pc2 := 5) rfl rfl ?_
              refine z_icmp_le (t := 19) (pc2 := 8) rfl rfl rfl (by omega) (by omega) (fun c36 => ?_) (fun c36 => ?_)
              ·
                refine z_iconst (pc2 := 20) rfl rfl ?_
                refine z_zret rfl rfl (by omega) ?_
                show zB _ _ _ _ _ _ [_] _ _
                refine z_if_eq (t := 122) (pc2 := 118) rfl rfl rfl (by omega) (fun c37 => ?_) (fun c37 => by exfalso; omega)
                refine z_iconst (pc2 := 123) rfl rfl ?_
                refine z_istore (lv2 := [(4, _), (3, _), (0, _), (1, _), (2, _)]) (pc2 := 125) rfl rfl rfl rfl ?_
                refine z_iload (pc2 := 127) rfl rfl rfl ?_
                refine z_if_eq (t := 145) (pc2 := 130) rfl rfl rfl (by omega) (fun c38 => ?_) (fun c38 => by exfalso; omega)
                refine z_iload_n (pc2 := 146) rfl rfl rfl ?_
                refine z_iload_n (pc2 := 147) rfl rfl rfl ?_
                refine z_isub (pc2 := 148) rfl rfl ?_
                refine z_iret rfl rfl ?_
                exact hK _ _ _ hI2 (by omega)
              ·
                refine z_aload_n (pc2 := 9) rfl rfl rfl ?_
                refine z_getI (pc2 := 12) 0 rfl rfl rfl rfl rfl tq34 ?_
                intro v39 e39 r39 k39
                clear k39
                clear e39
                refine z_if_ne (t := 19) (pc2 := 15) rfl rfl rfl (by omega) (fun c40 => ?_) (fun c40 => ?_)
                ·
                  refine z_iconst (pc2 := 20) rfl rfl ?_
                  refine z_zret rfl rfl (by omega) ?_
                  show zB _ _ _ _ _ _ [_] _ _
                  refine z_if_eq (t := 122) (pc2 := 118) rfl rfl rfl (by omega) (fun c41 => ?_) (fun c41 => by exfalso; omega)
                  refine z_iconst (pc2 := 123) rfl rfl ?_
                  refine z_istore (lv2 := [(4, _), (3, _), (0, _), (1, _), (2, _)]) (pc2 := 125) rfl rfl rfl rfl ?_
                  refine z_iload (pc2 := 127) rfl rfl rfl ?_
                  refine z_if_eq (t := 145) (pc2 := 130) rfl rfl rfl (by omega) (fun c42 => ?_) (fun c42 => by exfalso; omega)
                  refine z_iload_n (pc2 := 146) rfl rfl rfl ?_
                  refine z_iload_n (pc2 := 147) rfl rfl rfl ?_
                  refine z_isub (pc2 := 148) rfl rfl ?_
                  refine z_iret rfl rfl ?_
                  exact hK _ _ _ hI2 (by omega)
                ·
                  refine z_iconst (pc2 := 16) rfl rfl ?_
                  refine z_goto (pc2 := 20) rfl rfl ?_
                  refine z_zret rfl rfl (by omega) ?_
                  show zB _ _ _ _ _ _ [_] _ _
                  refine z_if_eq (t := 122) (pc2 := 118) rfl rfl rfl (by omega) (fun c43 => by exfalso; omega) (fun c43 => ?_)
                  refine z_iconst (pc2 := 119) rfl rfl ?_
                  refine z_goto (pc2 := 123) rfl rfl ?_
                  refine z_istore (lv2 := [(4, _), (3, _), (0, _), (1, _), (2, _)]) (pc2 := 125) rfl rfl rfl rfl ?_
                  refine z_iload (pc2 := 127) rfl rfl rfl ?_
                  refine z_if_eq (t := 145) (pc2 := 130) rfl rfl rfl (by omega) (fun c44 => by exfalso; omega) (fun c44 => ?_)
                  refine z_iload_n (pc2 := 131) rfl rfl rfl ?_
                  refine z_iload_n (pc2 := 132) rfl rfl rfl ?_
                  refine z_isub (pc2 := 133) rfl rfl ?_
                  refine z_iconst (pc2 := 134) rfl rfl ?_
                  refine z_icmp_lt (t := 145) (pc2 := 137) rfl rfl rfl (by omega) (by omega) (fun c45 => ?_) (fun c45 => ?_)
                  ·
                    refine z_iload_n (pc2 := 146) rfl rfl rfl ?_
                    refine z_iload_n (pc2 := 147) rfl rfl rfl ?_
                    refine z_isub (pc2 := 148) rfl rfl ?_
                    refine z_iret rfl rfl ?_
                    exact hK _ _ _ hI2 (by omega)
                  ·
                    refine z_iload_n (pc2 := 138) rfl rfl rfl ?_
                    refine z_iload_n (pc2 := 139) rfl rfl rfl ?_
                    refine z_isub (pc2 := 140) rfl rfl ?_
                    refine z_iconst (pc2 := 141) rfl rfl ?_
                    refine z_isub (pc2 := 142) rfl rfl ?_
                    refine z_goto (pc2 := 148) rfl rfl ?_
                    refine z_iret rfl rfl ?_
                    exact hK _ _ _ hI2 (by omega)
          ·
            refine z_aload_n (pc2 := 9) rfl rfl rfl ?_
            refine z_getI (pc2 := 12) 0 rfl rfl rfl rfl rfl tq26 ?_
            intro v46 e46 r46 k46
            clear k46
            clear e46
            refine z_aload_n (pc2 := 13) rfl rfl rfl ?_
            refine z_getI (pc2 := 16) 0 rfl rfl rfl rfl rfl tq26 ?_
            intro v47 e47 r47 k47
            clear k47
            clear e47
            refine z_iconst (pc2 := 17) rfl rfl ?_
            refine z_isub (pc2 := 18) rfl rfl ?_
            refine z_icmp_any (t := 25) (pc2 := 21) rfl rfl rfl ?_ ?_
            ·
              refine z_iconst (pc2 := 26) rfl rfl ?_
              refine z_zret rfl rfl (by omega) ?_
              show zB _ _ _ _ _ _ [_] _ _
              refine z_if_eq (t := 95) (pc2 := 91) rfl rfl rfl (by omega) (fun c48 => ?_) (fun c48 => by exfalso; omega)
              refine z_iconst (pc2 := 96) rfl rfl ?_
              refine z_istore_n (lv2 := [(3, _), (0, _), (1, _), (2, _)]) (pc2 := 97) rfl rfl rfl rfl ?_
              refine z_iload_n (pc2 := 98) rfl rfl rfl ?_
              refine z_if_ne (t := 118) (pc2 := 101) rfl rfl rfl (by omega) (fun c49 => by exfalso; omega) (fun c49 => ?_)
              refine z_aload_n (pc2 := 102) rfl rfl rfl ?_
              refine z_getP (pc2 := 105) rfl rfl rfl rfl t14 ?_
              intro p50 p50e p50k
              clear p50k; replace p50e : p50 = some x := by rw [p50e]; first | exact hfo | exact Eq.symm hfo | (simp [zU]; first | done | exact hfo | exact Eq.symm hfo | omega)
              subst p50e
              refine z_getP (pc2 := 108) rfl rfl rfl rfl tx.1 ?_
              intro p51 p51e p51k
              replace p51k : p51 = some (x + 4) := p51k; clear p51e; subst p51k
              refine z_iload_n (pc2 := 109) rfl rfl rfl ?_
              refine z_iconst (pc2 := 110) rfl rfl ?_
              refine z_isub (pc2 := 111) rfl rfl ?_
              refine z_aald (pc2 := 112) rfl rfl tx.2.2.2.2.1 rfl (by omega) (by omega) (by omega) ?_
              intro p52 p52e p52k
              rcases p52k with rfl | ⟨q53, rfl, q539, tq53⟩
              ·
                exact (zNn hpre p52e (by omega)).elim
              ·
                replace tq53 : _ = ((1, 4, [1]) : zT) := tq53
                refine zB_le tq53 trivial (fun q53l => ?_)
                refine z_callV (y2 := 48) (as := []) (rest := []) (pc2 := 115) rfl rfl rfl rfl tq53 rfl ?_
                refine z_inl ?_
                refine z_lv (lv2 := [(0, _)]) ⟨rfl, trivial⟩ ?_
                refine z_aload_n (pc2 := 1) rfl rfl rfl ?_
                refine z_getI (pc2 := 4) 0 rfl rfl rfl rfl rfl tq53 ?_
                intro v54 e54 r54 k54
                clear k54
                clear e54
                refine z_iconst (pc2 := 5) rfl rfl ?_
                refine z_icmp_le (t := 19) (pc2 := 8) rfl rfl rfl (by omega) (by omega) (fun c55 => ?_) (fun c55 => ?_)
                ·
                  refine z_iconst (pc2 := 20) rfl rfl ?_
                  refine z_zret rfl rfl (by omega) ?_
                  show zB _ _ _ _ _ _ [_] _ _
                  refine z_if_eq (t := 122) (pc2 := 118) rfl rfl rfl (by omega) (fun c56 => ?_) (fun c56 => by exfalso; omega)
                  refine z_iconst (pc2 := 123) rfl rfl ?_
                  refine z_istore (lv2 := [(4, _), (3, _), (0, _), (1, _), (2, _)]) (pc2 := 125) rfl rfl rfl rfl ?_
                  refine z_iload (pc2 := 127) rfl rfl rfl ?_
                  refine z_if_eq (t := 145) (pc2 := 130) rfl rfl rfl (by omega) (fun c57 => ?_) (fun c57 => by exfalso; omega)
                  refine z_iload_n (pc2 := 146) rfl rfl rfl ?_
                  refine z_iload_n (pc2 := 147) rfl rfl rfl ?_
                  refine z_isub (pc2 := 148) rfl rfl ?_
                  refine z_iret rfl rfl ?_
                  exact hK _ _ _ hI2 (by omega)
                ·
                  refine z_aload_n (pc2 := 9) rfl rfl rfl ?_
                  refine z_getI (pc2 := 12) 0 rfl rfl rfl rfl rfl tq53 ?_
                  intro v58 e58 r58 k58
                  clear k58
                  clear e58
                  refine z_if_ne (t := 19) (pc2 := 15) rfl rfl rfl (by omega) (fun c59 => ?_) (fun c59 => ?_)
                  ·
                    refine z_iconst (pc2 := 20) rfl rfl ?_
                    refine z_zret rfl rfl (by omega) ?_
                    show zB _ _ _ _ _ _ [_] _ _
                    refine z_if_eq (t := 122) (pc2 := 118) rfl rfl rfl (by omega) (fun c60 => ?_) (fun c60 => by exfalso; omega)
                    refine z_iconst (pc2 := 123) rfl rfl ?_
                    refine z_istore (lv2 := [(4, _), (3, _), (0, _), (1, _), (2, _)]) (pc2 := 125) rfl rfl rfl rfl ?_
                    refine z_iload (pc2 := 127) rfl rfl rfl ?_
                    refine z_if_eq (t := 145) (pc2 := 130) rfl rfl rfl (by omega) (fun c61 => ?_) (fun c61 => by exfalso; omega)
                    refine z_iload_n (pc2 := 146) rfl rfl rfl ?_
                    refine z_iload_n (pc2 := 147) rfl rfl rfl ?_
                    refine z_isub (pc2 := 148) rfl rfl ?_
                    refine z_iret rfl rfl ?_
                    exact hK _ _ _ hI2 (by omega)
                  ·
                    refine z_iconst (pc2 := 16) rfl rfl ?_
                    refine z_goto (pc2 := 20) rfl rfl ?_
                    refine z_zret rfl rfl (by omega) ?_
                    show zB _ _ _ _ _ _ [_] _ _
                    refine z_if_eq (t := 122) (pc2 := 118) rfl rfl rfl (by omega) (fun c62 => by exfalso; omega) (fun c62 => ?_)
                    refine z_iconst (pc2 := 119) rfl rfl ?_
                    refine z_goto (pc2 := 123) rfl rfl ?_
                    refine z_istore (lv2 := [(4, _), (3, _), (0, _), (1, _), (2, _)]) (pc2 := 125) rfl rfl rfl rfl ?_
                    refine z_iload (pc2 := 127) rfl rfl rfl ?_
                    refine z_if_eq (t := 145) (pc2 := 130) rfl rfl rfl (by omega) (fun c63 => by exfalso; omega) (fun c63 => ?_)
                    refine z_iload_n (pc2 := 131) rfl rfl rfl ?_
                    refine z_iload_n (pc2 := 132) rfl rfl rfl ?_
                    refine z_isub (pc2 := 133) rfl rfl ?_
                    refine z_iconst (pc2 := 134) rfl rfl ?_
                    refine z_icmp_lt (t := 145) (pc2 := 137) rfl rfl rfl (by omega) (by omega) (fun c64 => ?_) (fun c64 => ?_)
                    ·
                      refine z_iload_n (pc2 := 146) rfl rfl rfl ?_
                      refine z_iload_n (pc2 := 147) rfl rfl rfl ?_
                      refine z_isub (pc2 := 148) rfl rfl ?_
                      refine z_iret rfl rfl ?_
                      exact hK _ _ _ hI2 (by omega)
                    ·
                      refine z_iload_n (pc2 := 138) rfl rfl rfl ?_
                      refine z_iload_n (pc2 := 139) rfl rfl rfl ?_
                      refine z_isub (pc2 := 140) rfl rfl ?_
                      refine z_iconst (pc2 := 141) rfl rfl ?_
                      refine z_isub (pc2 := 142) rfl rfl ?_
                      refine z_goto (pc2 := 148) rfl rfl ?_
                      refine z_iret rfl rfl ?_
                      exact hK _ _ _ hI2 (by omega)
            ·
              refine z_iconst (pc2 := 22) rfl rfl ?_
              refine z_goto (pc2 := 26) rfl rfl ?_
              refine z_zret rfl rfl (by omega) ?_
              show zB _ _ _ _ _ _ [_] _ _
              refine z_if_eq (t := 95) (pc2 := 91) rfl rfl rfl (by omega) (fun c65 => by exfalso; omega) (fun c65 => ?_)
              refine z_iconst (pc2 := 92) rfl rfl ?_
              refine z_goto (pc2 := 96) rfl rfl ?_
              refine z_istore_n (lv2 := [(3, _), (0, _), (1, _), (2, _)]) (pc2 := 97) rfl rfl rfl rfl ?_
              refine z_iload_n (pc2 := 98) rfl rfl rfl ?_
              refine z_if_ne (t := 118) (pc2 := 101) rfl rfl rfl (by omega) (fun c66 => ?_) (fun c66 => by exfalso; omega)
              refine z_iconst (pc2 := 119) rfl rfl ?_
              refine z_goto (pc2 := 123) rfl rfl ?_
              refine z_istore (lv2 := [(4, _), (3, _), (0, _), (1, _), (2, _)]) (pc2 := 125) rfl rfl rfl rfl ?_
              refine z_iload (pc2 := 127) rfl rfl rfl ?_
              refine z_if_eq (t := 145) (pc2 := 130) rfl rfl rfl (by omega) (fun c67 => by exfalso; omega) (fun c67 => ?_)
              refine z_iload_n (pc2 := 131) rfl rfl rfl ?_
              refine z_iload_n (pc2 := 132) rfl rfl rfl ?_
              refine z_isub (pc2 := 133) rfl rfl ?_
              refine z_iconst (pc2 := 134) rfl rfl ?_
              refine z_icmp_lt (t := 145) (pc2 := 137) rfl rfl rfl (by omega) (by omega) (fun c68 => ?_) (fun c68 => ?_)
              ·
                refine z_iload_n (pc2 := 146) rfl rfl rfl ?_
                refine z_iload_n (pc2 := 147) rfl rfl rfl ?_
                refine z_isub (pc2 := 148) rfl rfl ?_
                refine z_iret rfl rfl ?_
                exact hK _ _ _ hI2 (by omega)
              ·
                refine z_iload_n (pc2 := 138) rfl rfl rfl ?_
                refine z_iload_n (pc2 := 139) rfl rfl rfl ?_
                refine z_isub (pc2 := 140) rfl rfl ?_
                refine z_iconst (pc2 := 141) rfl rfl ?_
                refine z_isub (pc2 := 142) rfl rfl ?_
                refine z_goto (pc2 := 148) rfl rfl ?_
                refine z_iret rfl rfl ?_
                exact hK _ _ _ hI2 (by omega)
    ·
      refine z_aload_n (pc2 := 33) rfl rfl rfl ?_
      refine z_aload_n (pc2 := 34) rfl rfl rfl ?_
      refine z_getP (pc2 := 37) rfl rfl rfl rfl t14 ?_
      intro p69 p69e p69k
      clear p69k; replace p69e : p69 = some x := by rw [p69e]; first | exact hfo | exact Eq.symm hfo | (simp [zU]; first | done | exact hfo | exact Eq.symm hfo | omega)
      subst p69e
      refine z_getP (pc2 := 40) rfl rfl rfl rfl tx.1 ?_
      intro p70 p70e p70k
      replace p70k : p70 = some (x + 4) := p70k; clear p70e; subst p70k
      refine z_iload_n (pc2 := 41) rfl rfl rfl ?_
      refine z_aald (pc2 := 42) rfl rfl tx.2.2.2.2.1 rfl (by omega) (by omega) (by omega) ?_
      intro p71 p71e p71k
      rcases p71k with rfl | ⟨q72, rfl, q729, tq72⟩
      ·
        exact (zNn hpre p71e (by omega)).elim
      ·
        replace tq72 : _ = ((1, 4, [1]) : zT) := tq72
        refine zB_le tq72 trivial (fun q72l => ?_)
        refine z_callV (y2 := 62) (as := [_]) (rest := []) (pc2 := 45) rfl rfl rfl rfl t14 rfl ?_
        refine c_Pager_add hn hC tq72 (by omega) hnh hrn trn hpop (fun I73 f73 h73 => ?_)
        replace f73 := zPgr_tr (I := I) (by repeat (first | exact zPgr_rf | assumption | refine zPgr_f ?_ (by decide) | refine zPgr_n ?_)) f73
        show zB _ _ _ _ _ _ [] _ _
        refine z_aload_n (pc2 := 46) rfl rfl rfl ?_
        refine z_getI (pc2 := 49) 0 rfl rfl rfl rfl rfl t14 ?_
        intro v74 e74 r74 k74
        clear k74
        clear e74
        refine z_aload_n (pc2 := 50) rfl rfl rfl ?_
        refine z_getI (pc2 := 53) 0 rfl rfl rfl rfl rfl t14 ?_
        intro v75 e75 r75 k75
        clear k75
        clear e75
        refine z_icmp_le (t := 59) (pc2 := 56) rfl rfl rfl (by omega) (by omega) (fun c76 => ?_) (fun c76 => ?_)
        ·
          refine z_iinc (lv2 := [(2, _), (0, _), (1, _)]) (pc2 := 62) rfl rfl rfl rfl rfl ?_
          refine z_goto (pc2 := 21) rfl rfl ?_
          refine z_lv (lv2 := [(0, _), (1, _), (2, _)]) ⟨rfl, rfl, rfl, trivial⟩ ?_
          exact ih _ _ _ (by omega) f73 (by omega) h73 (by omega)
        ·
          refine z_goto (pc2 := 65) rfl rfl ?_
          refine z_iload_n (pc2 := 66) rfl rfl rfl ?_
          refine z_aload_n (pc2 := 67) rfl rfl rfl ?_
          refine z_getP (pc2 := 70) rfl rfl rfl rfl t14 ?_
          intro p77 p77e p77k
          clear p77k; replace p77e : p77 = some x := by rw [p77e]; first | exact hfo | exact Eq.symm hfo | (simp [zU]; first | done | exact hfo | exact Eq.symm hfo | omega)
          subst p77e
          refine z_getI (pc2 := 73) 0 rfl rfl rfl rfl rfl tx.1 ?_
          intro v78 e78 r78 k78
          replace k78 : (0 : Int) ≤ v78 ∧ v78 ≤ 89 := k78
          replace e78 : N = v78 := by rw [e78]; first | exact ((f73 x 6 (by omega) (by omega)).trans hN) | exact Eq.symm ((f73 x 6 (by omega) (by omega)).trans hN) | (simp [zU]; first | done | exact ((f73 x 6 (by omega) (by omega)).trans hN) | exact Eq.symm ((f73 x 6 (by omega) (by omega)).trans hN) | omega)
          subst e78
          refine z_icmp_ge (t := 95) (pc2 := 76) rfl rfl rfl (by omega) (by omega) (fun c79 => ?_) (fun c79 => ?_)
          ·
            refine z_iconst (pc2 := 96) rfl rfl ?_
            refine z_istore_n (lv2 := [(3, _), (0, _), (1, _), (2, _)]) (pc2 := 97) rfl rfl rfl rfl ?_
            refine z_iload_n (pc2 := 98) rfl rfl rfl ?_
            refine z_if_ne (t := 118) (pc2 := 101) rfl rfl rfl (by omega) (fun c80 => by exfalso; omega) (fun c80 => ?_)
            refine z_aload_n (pc2 := 102) rfl rfl rfl ?_
            refine z_getP (pc2 := 105) rfl rfl rfl rfl t14 ?_
            intro p81 p81e p81k
            clear p81k; replace p81e : p81 = some x := by rw [p81e]; first | exact hfo | exact Eq.symm hfo | (simp [zU]; first | done | exact hfo | exact Eq.symm hfo | omega)
            subst p81e
            refine z_getP (pc2 := 108) rfl rfl rfl rfl tx.1 ?_
            intro p82 p82e p82k
            replace p82k : p82 = some (x + 4) := p82k; clear p82e; subst p82k
            refine z_iload_n (pc2 := 109) rfl rfl rfl ?_
            refine z_iconst (pc2 := 110) rfl rfl ?_
            refine z_isub (pc2 := 111) rfl rfl ?_
            refine z_aald (pc2 := 112) rfl rfl tx.2.2.2.2.1 rfl (by omega) (by omega) (by omega) ?_
            intro p83 p83e p83k
            rcases p83k with rfl | ⟨q84, rfl, q849, tq84⟩
            ·
              exact (zNn hpre p83e (by omega)).elim
            ·
              replace tq84 : _ = ((1, 4, [1]) : zT) := tq84
              refine zB_le tq84 trivial (fun q84l => ?_)
              refine z_callV (y2 := 48) (as := []) (rest := []) (pc2 := 115) rfl rfl rfl rfl tq84 rfl ?_
              refine z_inl ?_
              refine z_lv (lv2 := [(0, _)]) ⟨rfl, trivial⟩ ?_
              refine z_aload_n (pc2 := 1) rfl rfl rfl ?_
              refine z_getI (pc2 := 4) 0 rfl rfl rfl rfl rfl tq84 ?_
              intro v85 e85 r85 k85
              clear k85
              clear e85
              refine z_iconst (pc2 := 5) rfl rfl ?_
              refine z_icmp_le (t := 19) (pc2 := 8) rfl rfl rfl (by omega) (by omega) (fun c86 => ?_) (fun c86 => ?_)
              ·
                refine z_iconst (pc2 := 20) rfl rfl ?_
                refine z_zret rfl rfl (by omega) ?_
                show zB _ _ _ _ _ _ [_] _ _
                refine z_if_eq (t := 122) (pc2 := 118) rfl rfl rfl (by omega) (fun c87 => ?_) (fun c87 => by exfalso; omega)
                refine z_iconst (pc2 := 123) rfl rfl ?_
                refine z_istore (lv2 := [(4, _), (3, _), (0, _), (1, _), (2, _)]) (pc2 := 125) rfl rfl rfl rfl ?_
                refine z_iload (pc2 := 127) rfl rfl rfl ?_
                refine z_if_eq (t := 145) (pc2 := 130) rfl rfl rfl (by omega) (fun c88 => ?_) (fun c88 => by exfalso; omega)
                refine z_iload_n (pc2 := 146) rfl rfl rfl ?_
                refine z_iload_n (pc2 := 147) rfl rfl rfl ?_
                refine z_isub (pc2 := 148) rfl rfl ?_
                refine z_iret rfl rfl ?_
                exact hK _ _ _ f73 (by omega)
              ·
                refine z_aload_n (pc2 := 9) rfl rfl rfl ?_
                refine z_getI (pc2 := 12) 0 rfl rfl rfl rfl rfl tq84 ?_
                intro v89 e89 r89 k89
                clear k89
                clear e89
                refine z_if_ne (t := 19) (pc2 := 15) rfl rfl rfl (by omega) (fun c90 => ?_) (fun c90 => ?_)
                ·
                  refine z_iconst (pc2 := 20) rfl rfl ?_
                  refine z_zret rfl rfl (by omega) ?_
                  show zB _ _ _ _ _ _ [_] _ _
                  refine z_if_eq (t := 122) (pc2 := 118) rfl rfl rfl (by omega) (fun c91 => ?_) (fun c91 => by exfalso; omega)
                  refine z_iconst (pc2 := 123) rfl rfl ?_
                  refine z_istore (lv2 := [(4, _), (3, _), (0, _), (1, _), (2, _)]) (pc2 := 125) rfl rfl rfl rfl ?_
                  refine z_iload (pc2 := 127) rfl rfl rfl ?_
                  refine z_if_eq (t := 145) (pc2 := 130) rfl rfl rfl (by omega) (fun c92 => ?_) (fun c92 => by exfalso; omega)
                  refine z_iload_n (pc2 := 146) rfl rfl rfl ?_
                  refine z_iload_n (pc2 := 147) rfl rfl rfl ?_
                  refine z_isub (pc2 := 148) rfl rfl ?_
                  refine z_iret rfl rfl ?_
                  exact hK _ _ _ f73 (by omega)
                ·
                  refine z_iconst (pc2 := 16) rfl rfl ?_
                  refine z_goto (pc2 := 20) rfl rfl ?_
                  refine z_zret rfl rfl (by omega) ?_
                  show zB _ _ _ _ _ _ [_] _ _
                  refine z_if_eq (t := 122) (pc2 := 118) rfl rfl rfl (by omega) (fun c93 => by exfalso; omega) (fun c93 => ?_)
                  refine z_iconst (pc2 := 119) rfl rfl ?_
                  refine z_goto (pc2 := 123) rfl rfl ?_
                  refine z_istore (lv2 := [(4, _), (3, _), (0, _), (1, _), (2, _)]) (pc2 := 125) rfl rfl rfl rfl ?_
                  refine z_iload (pc2 := 127) rfl rfl rfl ?_
                  refine z_if_eq (t := 145) (pc2 := 130) rfl rfl rfl (by omega) (fun c94 => by exfalso; omega) (fun c94 => ?_)
                  refine z_iload_n (pc2 := 131) rfl rfl rfl ?_
                  refine z_iload_n (pc2 := 132) rfl rfl rfl ?_
                  refine z_isub (pc2 := 133) rfl rfl ?_
                  refine z_iconst (pc2 := 134) rfl rfl ?_
                  refine z_icmp_lt (t := 145) (pc2 := 137) rfl rfl rfl (by omega) (by omega) (fun c95 => ?_) (fun c95 => ?_)
                  ·
                    refine z_iload_n (pc2 := 146) rfl rfl rfl ?_
                    refine z_iload_n (pc2 := 147) rfl rfl rfl ?_
                    refine z_isub (pc2 := 148) rfl rfl ?_
                    refine z_iret rfl rfl ?_
                    exact hK _ _ _ f73 (by omega)
                  ·
                    refine z_iload_n (pc2 := 138) rfl rfl rfl ?_
                    refine z_iload_n (pc2 := 139) rfl rfl rfl ?_
                    refine z_isub (pc2 := 140) rfl rfl ?_
                    refine z_iconst (pc2 := 141) rfl rfl ?_
                    refine z_isub (pc2 := 142) rfl rfl ?_
                    refine z_goto (pc2 := 148) rfl rfl ?_
                    refine z_iret rfl rfl ?_
                    exact hK _ _ _ f73 (by omega)
          ·
            refine z_aload_n (pc2 := 77) rfl rfl rfl ?_
            refine z_getP (pc2 := 80) rfl rfl rfl rfl t14 ?_
            intro p96 p96e p96k
            clear p96k; replace p96e : p96 = some x := by rw [p96e]; first | exact hfo | exact Eq.symm hfo | (simp [zU]; first | done | exact hfo | exact Eq.symm hfo | omega)
            subst p96e
            refine z_getP (pc2 := 83) rfl rfl rfl rfl tx.1 ?_
            intro p97 p97e p97k
            replace p97k : p97 = some (x + 4) := p97k; clear p97e; subst p97k
            refine z_iload_n (pc2 := 84) rfl rfl rfl ?_
            refine z_aald (pc2 := 85) rfl rfl tx.2.2.2.2.1 rfl (by omega) (by omega) (by omega) ?_
            intro p98 p98e p98k
            rcases p98k with rfl | ⟨q99, rfl, q999, tq99⟩
            ·
              exact (zNn hpre p98e (by omega)).elim
            ·
              replace tq99 : _ = ((1, 4, [1]) : zT) := tq99
              refine zB_le tq99 trivial (fun q99l => ?_)
              refine z_callV (y2 := 47) (as := []) (rest := []) (pc2 := 88) rfl rfl rfl rfl tq99 rfl ?_
              refine z_inl ?_
              refine z_lv (lv2 := [(0, _)]) ⟨rfl, trivial⟩ ?_
              refine z_aload_n (pc2 := 1) rfl rfl rfl ?_
              refine z_getI (pc2 := 4) 0 rfl rfl rfl rfl rfl tq99 ?_
              intro v100 e100 r100 k100
              clear k100
              clear e100
              refine z_iconst (pc2 := 5) rfl rfl ?_
              refine z_icmp_le (t := 25) (pc2 := 8) rfl rfl rfl (by omega) (by omega) (fun c101 => ?_) (fun c101 => ?_)
              ·
                refine z_iconst (pc2 := 26) rfl rfl ?_
                refine z_zret rfl rfl (by omega) ?_
                show zB _ _ _ _ _ _ [_] _ _
                refine z_if_eq (t := 95) (pc2 := 91) rfl rfl rfl (by omega) (fun c102 => ?_) (fun c102 => by exfalso; omega)
                refine z_iconst (pc2 := 96) rfl rfl ?_
                refine z_istore_n (lv2 := [(3, _), (0, _), (1, _), (2, _)]) (pc2 := 97) rfl rfl rfl rfl ?_
                refine z_iload_n (pc2 := 98) rfl rfl rfl ?_
                refine z_if_ne (t := 118) (pc2 := 101) rfl rfl rfl (by omega) (fun c103 => by exfalso; omega) (fun c103 => ?_)
                refine z_aload_n (pc2 := 102) rfl rfl rfl ?_
                refine z_getP (pc2 := 105) rfl rfl rfl rfl t14 ?_
                intro p104 p104e p104k
                clear p104k; replace p104e : p104 = some x := by rw [p104e]; first | exact hfo | exact Eq.symm hfo | (simp [zU]; first | done | exact hfo | exact Eq.symm hfo | omega)
                subst p104e
                refine z_getP (pc2 := 108) rfl rfl rfl rfl tx.1 ?_
                intro p105 p105e p105k
                replace p105k : p105 = some (x + 4) := p105k; clear p105e; subst p105k
                refine z_iload_n (pc2 := 109) rfl rfl rfl ?_
                refine z_iconst (pc2 := 110) rfl rfl ?_
                refine z_isub (pc2 := 111) rfl rfl ?_
                refine z_aald (pc2 := 112) rfl rfl tx.2.2.2.2.1 rfl (by omega) (by omega) (by omega) ?_
                intro p106 p106e p106k
                rcases p106k with rfl | ⟨q107, rfl, q1079, tq107⟩
                ·
                  exact (zNn hpre p106e (by omega)).elim
                ·
                  replace tq107 : _ = ((1, 4, [1]) : zT) := tq107
                  refine zB_le tq107 trivial (fun q107l => ?_)
                  refine z_callV (y2 := 48) (as := []) (rest := []) (pc2 := 115) rfl rfl rfl rfl tq107 rfl ?_
                  refine z_inl ?_
                  refine z_lv (lv2 := [(0, _)]) ⟨rfl, trivial⟩ ?_
                  refine z_aload_n (pc2 := 1) rfl rfl rfl ?_
                  refine z_getI (pc2 := 4) 0 rfl rfl rfl rfl rfl tq107 ?_
                  intro v108 e108 r108 k108
                  clear k108
                  clear e108
                  refine z_iconst (pc2 := 5) rfl rfl ?_
                  refine z_icmp_le (t := 19) (pc2 := 8) rfl rfl rfl (by omega) (by omega) (fun c109 => ?_) (fun c109 => ?_)
                  ·
                    refine z_iconst (pc2 := 20) rfl rfl ?_
                    refine z_zret rfl rfl (by omega) ?_
                    show zB _ _ _ _ _ _ [_] _ _
                    refine z_if_eq (t := 122) (pc2 := 118) rfl rfl rfl (by omega) (fun c110 => ?_) (fun c110 => by exfalso; omega)
                    refine z_iconst (pc2 := 123) rfl rfl ?_
                    refine z_istore (lv2 := [(4, _), (3, _), (0, _), (1, _), (2, _)]) (pc2 := 125) rfl rfl rfl rfl ?_
                    refine z_iload (pc2 := 127) rfl rfl rfl ?_
                    refine z_if_eq (t := 145) (pc2 := 130) rfl rfl rfl (by omega) (fun c111 => ?_) (fun c111 => by exfalso; omega)
                    refine z_iload_n (pc2 := 146) rfl rfl rfl ?_
                    refine z_iload_n (pc2 := 147) rfl rfl rfl ?_
                    refine z_isub (pc2 := 148) rfl rfl ?_
                    refine z_iret rfl rfl ?_
                    exact hK _ _ _ f73 (by omega)
                  ·
                    refine z_aload_n (pc2 := 9) rfl rfl rfl ?_
                    refine z_getI (pc2 := 12) 0 rfl rfl rfl rfl rfl tq107 ?_
                    intro v112 e112 r112 k112
                    clear k112
                    clear e112
                    refine z_if_ne (t := 19) (pc2 := 15) rfl rfl rfl (by omega) (fun c113 => ?_) (fun c113 => ?_)
                    ·
                      refine z_iconst (pc2 := 20) rfl rfl ?_
                      refine z_zret rfl rfl (by omega) ?_
                      show zB _ _ _ _ _ _ [_] _ _
                      refine z_if_eq (t := 122) (pc2 := 118) rfl rfl rfl (by omega) (fun c114 => ?_) (fun c114 => by exfalso; omega)
                      refine z_iconst (pc2 := 123) rfl rfl ?_
                      refine z_istore (lv2 := [(4, _), (3, _), (0, _), (1, _), (2, _)]) (pc2 := 125) rfl rfl rfl rfl ?_
                      refine z_iload (pc2 := 127) rfl rfl rfl ?_
                      refine z_if_eq (t := 145) (pc2 := 130) rfl rfl rfl (by omega) (fun c115 => ?_) (fun c115 => by exfalso; omega)
                      refine z_iload_n (pc2 := 146) rfl rfl rfl ?_
                      refine z_iload_n (pc2 := 147) rfl rfl rfl ?_
                      refine z_isub (pc2 := 148) rfl rfl ?_
                      refine z_iret rfl rfl ?_
                      exact hK _ _ _ f73 (by omega)
                    ·
                      refine z_iconst (pc2 := 16) rfl rfl ?_
                      refine z_goto (pc2 := 20) rfl rfl ?_
                      refine z_zret rfl rfl (by omega) ?_
                      show zB _ _ _ _ _ _ [_] _ _
                      refine z_if_eq (t := 122) (pc2 := 118) rfl rfl rfl (by omega) (fun c116 => by exfalso; omega) (fun c116 => ?_)
                      refine z_iconst (pc2 := 119) rfl rfl ?_
                      refine z_goto (pc2 := 123) rfl rfl ?_
                      refine z_istore (lv2 := [(4, _), (3, _), (0, _), (1, _), (2, _)]) (pc2 := 125) rfl rfl rfl rfl ?_
                      refine z_iload (pc2 := 127) rfl rfl rfl ?_
                      refine z_if_eq (t := 145) (pc2 := 130) rfl rfl rfl (by omega) (fun c117 => by exfalso; omega) (fun c117 => ?_)
                      refine z_iload_n (pc2 := 131) rfl rfl rfl ?_
                      refine z_iload_n (pc2 := 132) rfl rfl rfl ?_
                      refine z_isub (pc2 := 133) rfl rfl ?_
                      refine z_iconst (pc2 := 134) rfl rfl ?_
                      refine z_icmp_lt (t := 145) (pc2 := 137) rfl rfl rfl (by omega) (by omega) (fun c118 => ?_) (fun c118 => ?_)
                      ·
                        refine z_iload_n (pc2 := 146) rfl rfl rfl ?_
                        refine z_iload_n (pc2 := 147) rfl rfl rfl ?_
                        refine z_isub (pc2 := 148) rfl rfl ?_
                        refine z_iret rfl rfl ?_
                        exact hK _ _ _ f73 (by omega)
                      ·
                        refine z_iload_n (pc2 := 138) rfl rfl rfl ?_
                        refine z_iload_n (pc2 := 139) rfl rfl rfl ?_
                        refine z_isub (pc2 := 140) rfl rfl ?_
                        refine z_iconst (pc2 := 141) rfl rfl ?_
                        refine z_isub (pc2 := 142) rfl rfl ?_
                        refine z_goto (pc2 := 148) rfl rfl ?_
                        refine z_iret rfl rfl ?_
                        exact hK _ _ _ f73 (by omega)
              ·
                refine z_aload_n (pc2 := 9) rfl rfl rfl ?_
                refine z_getI (pc2 := 12) 0 rfl rfl rfl rfl rfl tq99 ?_
                intro v119 e119 r119 k119
                clear k119
                clear e119
                refine z_aload_n (pc2 := 13) rfl rfl rfl ?_
                refine z_getI (pc2 := 16) 0 rfl rfl rfl rfl rfl tq99 ?_
                intro v120 e120 r120 k120
                clear k120
                clear e120
                refine z_iconst (pc2 := 17) rfl rfl ?_
                refine z_isub (pc2 := 18) rfl rfl ?_
                refine z_icmp_any (t := 25) (pc2 := 21) rfl rfl rfl ?_ ?_
                ·
                  refine z_iconst (pc2 := 26) rfl rfl ?_
                  refine z_zret rfl rfl (by omega) ?_
                  show zB _ _ _ _ _ _ [_] _ _
                  refine z_if_eq (t := 95) (pc2 := 91) rfl rfl rfl (by omega) (fun c121 => ?_) (fun c121 => by exfalso; omega)
                  refine z_iconst (pc2 := 96) rfl rfl ?_
                  refine z_istore_n (lv2 := [(3, _), (0, _), (1, _), (2, _)]) (pc2 := 97) rfl rfl rfl rfl ?_
                  refine z_iload_n (pc2 := 98) rfl rfl rfl ?_
                  refine z_if_ne (t := 118) (pc2 := 101) rfl rfl rfl (by omega) (fun c122 => by exfalso; omega) (fun c122 => ?_)
                  refine z_aload_n (pc2 := 102) rfl rfl rfl ?_
                  refine z_getP (pc2 := 105) rfl rfl rfl rfl t14 ?_
                  intro p123 p123e p123k
                  clear p123k; replace p123e : p123 = some x := by rw [p123e]; first | exact hfo | exact Eq.symm hfo | (simp [zU]; first | done | exact hfo | exact Eq.symm hfo | omega)
                  subst p123e
                  refine z_getP (pc2 := 108) rfl rfl rfl rfl tx.1 ?_
                  intro p124 p124e p124k
                  replace p124k : p124 = some (x + 4) := p124k; clear p124e; subst p124k
                  refine z_iload_n (pc2 := 109) rfl rfl rfl ?_
                  refine z_iconst (pc2 := 110) rfl rfl ?_
                  refine z_isub (pc2 := 111) rfl rfl ?_
                  refine z_aald (pc2 := 112) rfl rfl tx.2.2.2.2.1 rfl (by omega) (by omega) (by omega) ?_
                  intro p125 p125e p125k
                  rcases p125k with rfl | ⟨q126, rfl, q1269, tq126⟩
                  ·
                    exact (zNn hpre p125e (by omega)).elim
                  ·
                    replace tq126 : _ = ((1, 4, [1]) : zT) := tq126
                    refine zB_le tq126 trivial (fun q126l => ?_)
                    refine z_callV (y2 := 48) (as := []) (rest := []) (pc2 := 115) rfl rfl rfl rfl tq126 rfl ?_
                    refine z_inl ?_
                    refine z_lv (lv2 := [(0, _)]) ⟨rfl, trivial⟩ ?_
                    refine z_aload_n (pc2 := 1) rfl rfl rfl ?_
                    refine z_getI (pc2 := 4) 0 rfl rfl rfl rfl rfl tq126 ?_
                    intro v127 e127 r127 k127
                    clear k127
                    clear e127
                    refine z_iconst (pc2 := 5) rfl rfl ?_
                    refine z_icmp_le (t := 19) (pc2 := 8) rfl rfl rfl (by omega) (by omega) (fun c128 => ?_) (fun c128 => ?_)
                    ·
                      refine z_iconst (pc2 := 20) rfl rfl ?_
                      refine z_zret rfl rfl (by omega) ?_
                      show zB _ _ _ _ _ _ [_] _ _
                      refine z_if_eq (t := 122) (pc2 := 118) rfl rfl rfl (by omega) (fun c129 => ?_) (fun c129 => by exfalso; omega)
                      refine z_iconst (pc2 := 123) rfl rfl ?_
                      refine z_istore (lv2 := [(4, _), (3, _), (0, _), (1, _), (2, _)]) (pc2 := 125) rfl rfl rfl rfl ?_
                      refine z_iload (pc2 := 127) rfl rfl rfl ?_
                      refine z_if_eq (t := 145) (pc2 := 130) rfl rfl rfl (by omega) (fun c130 => ?_) (fun c130 => by exfalso; omega)
                      refine z_iload_n (pc2 := 146) rfl rfl rfl ?_
                      refine z_iload_n (pc2 := 147) rfl rfl rfl ?_
                      refine z_isub (pc2 := 148) rfl rfl ?_
                      refine z_iret rfl rfl ?_
                      exact hK _ _ _ f73 (by omega)
                    ·
                      refine z_aload_n (pc2 := 9) rfl rfl rfl ?_
                      refine z_getI (pc2 := 12) 0 rfl rfl rfl rfl rfl tq126 ?_
                      intro v131 e131 r131 k131
                      clear k131
                      clear e131
                      refine z_if_ne (t := 19) (pc2 := 15) rfl rfl rfl (by omega) (fun c132 => ?_) (fun c132 => ?_)
                      ·
                        refine z_iconst (pc2 := 20) rfl rfl ?_
                        refine z_zret rfl rfl (by omega) ?_
                        show zB _ _ _ _ _ _ [_] _ _
                        refine z_if_eq (t := 122) (pc2 := 118) rfl rfl rfl (by omega) (fun c133 => ?_) (fun c133 => by exfalso; omega)
                        refine z_iconst (pc2 := 123) rfl rfl ?_
                        refine z_istore (lv2 := [(4, _), (3, _), (0, _), (1, _), (2, _)]) (pc2 := 125) rfl rfl rfl rfl ?_
                        refine z_iload (pc2 := 127) rfl rfl rfl ?_
                        refine z_if_eq (t := 145) (pc2 := 130) rfl rfl rfl (by omega) (fun c134 => ?_) (fun c134 => by exfalso; omega)
                        refine z_iload_n (pc2 := 146) rfl rfl rfl ?_
                        refine z_iload_n (pc2 := 147) rfl rfl rfl ?_
                        refine z_isub (pc2 := 148) rfl rfl ?_
                        refine z_iret rfl rfl ?_
                        exact hK _ _ _ f73 (by omega)
                      ·
                        refine z_iconst (pc2 := 16) rfl rfl ?_
                        refine z_goto (pc2 := 20) rfl rfl ?_
                        refine z_zret rfl rfl (by omega) ?_
                        show zB _ _ _ _ _ _ [_] _ _
                        refine z_if_eq (t := 122) (pc2 := 118) rfl rfl rfl (by omega) (fun c135 => by exfalso; omega) (fun c135 => ?_)
                        refine z_iconst (pc2 := 119) rfl rfl ?_
                        refine z_goto (pc2 := 123) rfl rfl ?_
                        refine z_istore (lv2 := [(4, _), (3, _), (0, _), (1, _), (2, _)]) (pc2 := 125) rfl rfl rfl rfl ?_
                        refine z_iload (pc2 := 127) rfl rfl rfl ?_
                        refine z_if_eq (t := 145) (pc2 := 130) rfl rfl rfl (by omega) (fun c136 => by exfalso; omega) (fun c136 => ?_)
                        refine z_iload_n (pc2 := 131) rfl rfl rfl ?_
                        refine z_iload_n (pc2 := 132) rfl rfl rfl ?_
                        refine z_isub (pc2 := 133) rfl rfl ?_
                        refine z_iconst (pc2 := 134) rfl rfl ?_
                        refine z_icmp_lt (t := 145) (pc2 := 137) rfl rfl rfl (by omega) (by omega) (fun c137 => ?_) (fun c137 => ?_)
                        ·
                          refine z_iload_n (pc2 := 146) rfl rfl rfl ?_
                          refine z_iload_n (pc2 := 147) rfl rfl rfl ?_
                          refine z_isub (pc2 := 148) rfl rfl ?_
                          refine z_iret rfl rfl ?_
                          exact hK _ _ _ f73 (by omega)
                        ·
                          refine z_iload_n (pc2 := 138) rfl rfl rfl ?_
                          refine z_iload_n (pc2 := 139) rfl rfl rfl ?_
                          refine z_isub (pc2 := 140) rfl rfl ?_
                          refine z_iconst (pc2 := 141) rfl rfl ?_
                          refine z_isub (pc2 := 142) rfl rfl ?_
                          refine z_goto (pc2 := 148) rfl rfl ?_
                          refine z_iret rfl rfl ?_
                          exact hK _ _ _ f73 (by omega)
                ·
                  refine z_iconst (pc2 := 22) rfl rfl ?_
                  refine z_goto (pc2 := 26) rfl rfl ?_
                  refine z_zret rfl rfl (by omega) ?_
                  show zB _ _ _ _ _ _ [_] _ _
                  refine z_if_eq (t := 95) (pc2 := 91) rfl rfl rfl (by omega) (fun c138 => by exfalso; omega) (fun c138 => ?_)
                  refine z_iconst (pc2 := 92) rfl rfl ?_
                  refine z_goto (pc2 := 96) rfl rfl ?_
                  refine z_istore_n (lv2 := [(3, _), (0, _), (1, _), (2, _)]) (pc2 := 97) rfl rfl rfl rfl ?_
                  refine z_iload_n (pc2 := 98) rfl rfl rfl ?_
                  refine z_if_ne (t := 118) (pc2 := 101) rfl rfl rfl (by omega) (fun c139 => ?_) (fun c139 => by exfalso; omega)
                  refine z_iconst (pc2 := 119) rfl rfl ?_
                  refine z_goto (pc2 := 123) rfl rfl ?_
                  refine z_istore (lv2 := [(4, _), (3, _), (0, _), (1, _), (2, _)]) (pc2 := 125) rfl rfl rfl rfl ?_
                  refine z_iload (pc2 := 127) rfl rfl rfl ?_
                  refine z_if_eq (t := 145) (pc2 := 130) rfl rfl rfl (by omega) (fun c140 => by exfalso; omega) (fun c140 => ?_)
                  refine z_iload_n (pc2 := 131) rfl rfl rfl ?_
                  refine z_iload_n (pc2 := 132) rfl rfl rfl ?_
                  refine z_isub (pc2 := 133) rfl rfl ?_
                  refine z_iconst (pc2 := 134) rfl rfl ?_
                  refine z_icmp_lt (t := 145) (pc2 := 137) rfl rfl rfl (by omega) (by omega) (fun c141 => ?_) (fun c141 => ?_)
                  ·
                    refine z_iload_n (pc2 := 146) rfl rfl rfl ?_
                    refine z_iload_n (pc2 := 147) rfl rfl rfl ?_
                    refine z_isub (pc2 := 148) rfl rfl ?_
                    refine z_iret rfl rfl ?_
                    exact hK _ _ _ f73 (by omega)
                  ·
                    refine z_iload_n (pc2 := 138) rfl rfl rfl ?_
                    refine z_iload_n (pc2 := 139) rfl rfl rfl ?_
                    refine z_isub (pc2 := 140) rfl rfl ?_
                    refine z_iconst (pc2 := 141) rfl rfl ?_
                    refine z_isub (pc2 := 142) rfl rfl ?_
                    refine z_goto (pc2 := 148) rfl rfl ?_
                    refine z_iret rfl rfl ?_
                    exact hK _ _ _ f73 (by omega)
set_option maxHeartbeats 8000000 in
theorem c_Pager_linesFilling {L : Nat} {xs : Nat → Int32} {n sl : Nat} {T : Nat → zT} {I : Nat → Nat → Int} {P : Nat → Nat → Option Nat} {G : Nat → Nat → Int} {K : List zV → zH → Prop} {a N : Int} {x rn : Nat} (hn : 90 ≤ n) (hC : ∀ a, 1 ≤ a → a ≤ 55 → T a = zFixC a) (ha : 0 ≤ a ∧ a ≤ 88) (hN : 1 ≤ N ∧ N ≤ 89) (ix : x = 23 ∨ x = 30 ∨ x = 42 ∨ x = 49) (haN : a < N) (hfo : P 14 3 = some x) (hnh : P 14 4 = some rn) (hrn : rn = 22 ∨ rn = 41) (trn : T rn = (2, 0, [12, 12])) (hpre : ∀ j : Nat, (j : Int) < N → ∃ q, P (x + 4) j = some q) (hN : I x 6 = N) (hK : ∀ e I2 G2, zPgr I I2 → (1 ≤ e ∧ e ≤ N - a) → K [.inl e] (n, sl, T, I2, P, G2)) : zX zMd L xs 58 [.inr (.inl (some 14)), .inl a] (n, sl, T, I, P, G) K := by
  have t14 : T 14 = (1, 6, [1]) := hC 14 (by decide) (by decide)
  have tx := zFl_t hC ix
  refine z_inl ?_
  refine z_lv (lv2 := [(0, _), (1, _)]) ⟨rfl, rfl, trivial⟩ ?_
  refine z_aload_n (pc2 := 1) rfl rfl rfl ?_
  refine z_callV (y2 := 61) (as := []) (rest := []) (pc2 := 4) rfl rfl rfl rfl t14 rfl ?_
  refine z_inl ?_
  refine z_lv (lv2 := [(0, _)]) ⟨rfl, trivial⟩ ?_
  refine z_aload_n (pc2 := 1) rfl rfl rfl ?_
  refine z_iconst (pc2 := 2) rfl rfl ?_
  refine z_putI (pc2 := 5) rfl rfl rfl rfl rfl rfl t14 (by omega) True.intro ?_
  refine z_aload_n (pc2 := 6) rfl rfl rfl ?_
  refine z_iconst (pc2 := 7) rfl rfl ?_
  refine z_putI (pc2 := 10) rfl rfl rfl rfl rfl rfl t14 (by omega) (by show (0 : Int) ≤ _ ∧ _ ≤ 12; omega) ?_
  refine z_aload_n (pc2 := 11) rfl rfl rfl ?_
  refine z_iconst (pc2 := 12) rfl rfl ?_
  refine z_putI (pc2 := 15) rfl rfl rfl rfl rfl rfl t14 (by omega) (by show (0 : Int) ≤ _ ∧ _ ≤ 4095; omega) ?_
  refine z_ret rfl rfl ?_
  show zB _ _ _ _ _ _ [] _ _
  refine z_aload_n (pc2 := 5) rfl rfl rfl ?_
  refine z_aload_n (pc2 := 6) rfl rfl rfl ?_
  refine z_getP (pc2 := 9) rfl rfl rfl rfl t14 ?_
  intro p1 p1e p1k
  clear p1k; replace p1e : p1 = some x := by rw [p1e]; first | exact hfo | exact Eq.symm hfo | (simp [zU]; first | done | exact hfo | exact Eq.symm hfo | omega)
  subst p1e
  refine z_getP (pc2 := 12) rfl rfl rfl rfl tx.1 ?_
  intro p2 p2e p2k
  replace p2k : p2 = some (x + 4) := p2k; clear p2e; subst p2k
  refine z_iload_n (pc2 := 13) rfl rfl rfl ?_
  refine z_aald (pc2 := 14) rfl rfl tx.2.2.2.2.1 rfl (by omega) (by omega) (by omega) ?_
  intro p3 p3e p3k
  rcases p3k with rfl | ⟨q4, rfl, q49, tq4⟩
  ·
    exact (zNn hpre p3e (by omega)).elim
  ·
    replace tq4 : _ = ((1, 4, [1]) : zT) := tq4
    refine zB_le tq4 trivial (fun q4l => ?_)
    refine z_callV (y2 := 62) (as := [_]) (rest := []) (pc2 := 17) rfl rfl rfl rfl t14 rfl ?_
    refine c_Pager_add hn hC tq4 (by omega) hnh hrn trn (by simp [zU]; rfl) (fun I5 f5 h5 => ?_)
    replace f5 := zPgr_tr (I := I) (by repeat (first | exact zPgr_rf | assumption | refine zPgr_f ?_ (by decide) | refine zPgr_n ?_)) f5
    show zB _ _ _ _ _ _ [] _ _
    refine z_iload_n (pc2 := 18) rfl rfl rfl ?_
    refine z_iconst (pc2 := 19) rfl rfl ?_
    refine z_iadd (pc2 := 20) rfl rfl ?_
    refine z_istore_n (lv2 := [(2, _), (0, _), (1, _)]) (pc2 := 21) rfl rfl rfl rfl ?_
    refine z_lv (lv2 := [(0, _), (1, _), (2, _)]) ⟨rfl, rfl, rfl, trivial⟩ ?_
    exact cl_Pager_linesFilling (N := N) hn hC (by omega) (by omega) ix (by omega) hfo hnh hrn trn hpre hN hK _ _ _ _ (by omega) f5 (by omega) h5 (Nat.lt_succ_self _)
