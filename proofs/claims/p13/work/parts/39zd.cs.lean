/-! the class: setting -/
set_option maxHeartbeats 8000000 in
theorem cl_Composer_findsSortsIn2 {L : Nat} {xs : Nat → Int32} {n sl : Nat} {T : Nat → zT} {I : Nat → Nat → Int} {P : Nat → Nat → Option Nat} {G : Nat → Nat → Int} {K : List zV → zH → Prop} {w : Nat} (hn : 90 ≤ n) (hC : ∀ a, 1 ≤ a → a ≤ 55 → T a = zFixC a) (tw : T w = (2, 0, [144, 0])) (wl : w ≤ 90) (hK : ∀ e I2 G2, (∀ a k, a ≠ 13 → I2 a k = I a k) → (0 ≤ e ∧ e ≤ 1) → K [.inl e] (n, sl, T, I2, P, G2)) (m : Nat) : ∀ (k : Int), 0 ≤ k ∧ k ≤ 144 → (144 - k).toNat < m → zB zMd L xs 2 41 [(0, .inr (.inl (some 9))), (1, .inr (.inl (some w))), (2, .inl k)] [] (n, sl, T, I, P, G) K := by
  have t9 : T 9 = (1, 0, [1]) := hC 9 (by decide) (by decide)
  have t13 : T 13 = (2, 0, [144, 0]) := hC 13 (by decide) (by decide)
  induction m with
  | zero => intro k hk hm; omega
  | succ m ih =>
    intro k hk hm
    refine z_iload_n (pc2 := 42) rfl rfl rfl ?_
    refine z_aload_n (pc2 := 43) rfl rfl rfl ?_
    refine z_getP (pc2 := 46) rfl rfl rfl rfl t9 ?_
    intro p1 p1e p1k
    replace p1k : p1 = some 13 := p1k; clear p1e; subst p1k
    refine z_alen (pc2 := 47) rfl rfl t13 rfl (by omega) ?_
    refine z_icmp_ge (t := 70) (pc2 := 50) rfl rfl rfl (by omega) (by omega) (fun c2 => ?_) (fun c2 => ?_)
    ·
      refine z_iconst (pc2 := 71) rfl rfl ?_
      refine z_zret rfl rfl (by omega) ?_
      exact hK _ _ _ (fun _ _ _ => rfl) (by omega)
    ·
      refine z_aload_n (pc2 := 51) rfl rfl rfl ?_
      refine z_getP (pc2 := 54) rfl rfl rfl rfl t9 ?_
      intro p3 p3e p3k
      replace p3k : p3 = some 13 := p3k; clear p3e; subst p3k
      refine z_iload_n (pc2 := 55) rfl rfl rfl ?_
      refine z_iald (pc2 := 56) rfl rfl t13 (by omega) (by omega) (by omega) ?_
      intro v4 e4 r4 k4
      clear k4
      clear e4
      refine z_aload_n (pc2 := 57) rfl rfl rfl ?_
      refine z_iload_n (pc2 := 58) rfl rfl rfl ?_
      refine z_iald (pc2 := 59) rfl rfl tw (by omega) (by omega) (by omega) ?_
      intro v5 e5 r5 k5
      clear k5
      clear e5
      refine z_icmp_le (t := 64) (pc2 := 62) rfl rfl rfl (by omega) (by omega) (fun c6 => ?_) (fun c6 => ?_)
      ·
        refine z_iinc (lv2 := [(2, _), (0, _), (1, _)]) (pc2 := 67) rfl rfl rfl rfl rfl ?_
        refine z_goto (pc2 := 41) rfl rfl ?_
        refine z_lv (lv2 := [(0, _), (1, _), (2, _)]) ⟨rfl, rfl, rfl, trivial⟩ ?_
        exact ih _ (by omega) (by omega)
      ·
        refine z_iconst (pc2 := 63) rfl rfl ?_
        refine z_zret rfl rfl (by omega) ?_
        exact hK _ _ _ (fun _ _ _ => rfl) (by omega)
set_option maxHeartbeats 8000000 in
theorem cl_Composer_findsSortsIn1 {L : Nat} {xs : Nat → Int32} {n sl : Nat} {T : Nat → zT} {I : Nat → Nat → Int} {P : Nat → Nat → Option Nat} {K : List zV → zH → Prop} {u : Int} {w : Nat} (hn : 90 ≤ n) (hC : ∀ a, 1 ≤ a → a ≤ 55 → T a = zFixC a) (hu : 0 ≤ u ∧ u ≤ 40) (tw : T w = (2, 0, [144, 0])) (wl : w ≤ 90) (hpre : ∀ j : Nat, (j : Int) < u → ∃ q, P 10 j = some q) (hu : I 9 1 = u) (hK : ∀ e I2 G2, (∀ a k, a ≠ 13 → I2 a k = I a k) → (0 ≤ e ∧ e ≤ 1) → K [.inl e] (n, sl, T, I2, P, G2)) (m : Nat) : ∀ (I2 : Nat → Nat → Int) (G2 : Nat → Nat → Int), ∀ (k : Int), 0 ≤ k ∧ k ≤ 40 → (∀ a k, a ≠ 13 → I2 a k = I a k) → k ≤ u → (40 - k).toNat < m → zB zMd L xs 2 10 [(0, .inr (.inl (some 9))), (1, .inr (.inl (some w))), (2, .inl k)] [] (n, sl, T, I2, P, G2) K := by
  have t9 : T 9 = (1, 0, [1]) := hC 9 (by decide) (by decide)
  have t10 : T 10 = (2, 6, [40, 1]) := hC 10 (by decide) (by decide)
  have t13 : T 13 = (2, 0, [144, 0]) := hC 13 (by decide) (by decide)
  induction m with
  | zero => intro I2 G2 k hk hI2 hb3 hm; omega
  | succ m ih =>
    intro I2 G2 k hk hI2 hb3 hm
    refine z_iload_n (pc2 := 11) rfl rfl rfl ?_
    refine z_aload_n (pc2 := 12) rfl rfl rfl ?_
    refine z_getI (pc2 := 15) 0 rfl rfl rfl rfl rfl t9 ?_
    intro v1 e1 r1 k1
    replace k1 : (0 : Int) ≤ v1 ∧ v1 ≤ 40 := k1
    replace e1 : u = v1 := by rw [e1]; first | exact ((hI2 9 1 (by omega)).trans hu) | exact Eq.symm ((hI2 9 1 (by omega)).trans hu) | (simp [zU]; first | done | exact ((hI2 9 1 (by omega)).trans hu) | exact Eq.symm ((hI2 9 1 (by omega)).trans hu) | omega) | (refine Eq.trans (congrArg _ ?_) (Eq.symm ((hI2 9 1 (by omega)).trans hu)); omega)
    subst e1
    refine z_icmp_ge (t := 39) (pc2 := 18) rfl rfl rfl (by omega) (by omega) (fun c2 => ?_) (fun c2 => ?_)
    ·
      refine z_iconst (pc2 := 40) rfl rfl ?_
      refine z_istore_n (lv2 := [(2, _), (0, _), (1, _)]) (pc2 := 41) rfl rfl rfl rfl ?_
      refine z_lv (lv2 := [(0, _), (1, _), (2, _)]) ⟨rfl, rfl, rfl, trivial⟩ ?_
      exact cl_Composer_findsSortsIn2 hn hC tw wl (fun e I9 G9 h1 h2 => hK e I9 G9 (fun a k h => (h1 a k h).trans (hI2 a k h)) h2) _ _ (by omega) (Nat.lt_succ_self _)
    ·
      refine z_aload_n (pc2 := 19) rfl rfl rfl ?_
      refine z_getP (pc2 := 22) rfl rfl rfl rfl t9 ?_
      intro p3 p3e p3k
      replace p3k : p3 = some 10 := p3k; clear p3e; subst p3k
      refine z_iload_n (pc2 := 23) rfl rfl rfl ?_
      refine z_aald (pc2 := 24) rfl rfl t10 rfl (by omega) (by omega) (by omega) ?_
      intro p4 p4e p4k
      rcases p4k with rfl | ⟨q5, rfl, q59, tq5⟩
      ·
        exact (zNn hpre p4e (by omega)).elim
      ·
        replace tq5 : _ = ((1, 4, [1]) : zT) := tq5
        refine zB_le tq5 trivial (fun q5l => ?_)
        refine z_aload_n (pc2 := 25) rfl rfl rfl ?_
        refine z_getP (pc2 := 28) rfl rfl rfl rfl t9 ?_
        intro p6 p6e p6k
        replace p6k : p6 = some 13 := p6k; clear p6e; subst p6k
        refine z_iconst (pc2 := 29) rfl rfl ?_
        refine z_callV (y2 := 50) (as := [_, _]) (rest := []) (pc2 := 32) rfl rfl rfl rfl tq5 rfl ?_
        refine c_Line_moveSorts hn hC (by omega) tq5 (by omega) t13 (by omega) (fun w7 I7 G7 f7 => ?_)
        replace f7 := fun a k h => (f7 a k h).trans (hI2 a k h)
        show zB _ _ _ _ _ _ [_] _ _
        refine z_pop (pc2 := 33) rfl rfl rfl ?_
        refine z_iinc (lv2 := [(2, _), (0, _), (1, _)]) (pc2 := 36) rfl rfl rfl rfl rfl ?_
        refine z_goto (pc2 := 10) rfl rfl ?_
        refine z_lv (lv2 := [(0, _), (1, _), (2, _)]) ⟨rfl, rfl, rfl, trivial⟩ ?_
        exact ih _ _ _ (by omega) (by assumption) (by omega) (by omega)
set_option maxHeartbeats 8000000 in
theorem c_Composer_findsSortsIn {L : Nat} {xs : Nat → Int32} {n sl : Nat} {T : Nat → zT} {I : Nat → Nat → Int} {P : Nat → Nat → Option Nat} {G : Nat → Nat → Int} {K : List zV → zH → Prop} {w : Nat} (hn : 90 ≤ n) (hC : ∀ a, 1 ≤ a → a ≤ 55 → T a = zFixC a) (tw : T w = (2, 0, [144, 0])) (wl : w ≤ 90) (hpre : ∀ j : Nat, (j : Int) < I 9 1 → ∃ q, P 10 j = some q) (hb1 : 0 ≤ I 9 1 ∧ I 9 1 ≤ 40) (hK : ∀ e I2 G2, (∀ a k, a ≠ 13 → I2 a k = I a k) → (0 ≤ e ∧ e ≤ 1) → K [.inl e] (n, sl, T, I2, P, G2)) : zX zMd L xs 2 [.inr (.inl (some 9)), .inr (.inl (some w))] (n, sl, T, I, P, G) K := by
  have t9 : T 9 = (1, 0, [1]) := hC 9 (by decide) (by decide)
  have t13 : T 13 = (2, 0, [144, 0]) := hC 13 (by decide) (by decide)
  refine z_inl ?_
  refine z_lv (lv2 := [(0, _), (1, _)]) ⟨rfl, rfl, trivial⟩ ?_
  refine z_aload_n (pc2 := 1) rfl rfl rfl ?_
  refine z_getP (pc2 := 4) rfl rfl rfl rfl t9 ?_
  intro p1 p1e p1k
  replace p1k : p1 = some 13 := p1k; clear p1e; subst p1k
  refine z_iconst (pc2 := 5) rfl rfl ?_
  refine z_callS (y2 := 269) (as := [_, _]) (rest := []) (pc2 := 8) rfl rfl rfl rfl ?_
  refine c_Arrays_fill hn hC (by omega) (by omega) t13 (fun _ => True.intro) (fun I2 G2 f2 => ?_)
  show zB _ _ _ _ _ _ [] _ _
  refine z_iconst (pc2 := 9) rfl rfl ?_
  refine z_istore_n (lv2 := [(2, _), (0, _), (1, _)]) (pc2 := 10) rfl rfl rfl rfl ?_
  refine z_lv (lv2 := [(0, _), (1, _), (2, _)]) ⟨rfl, rfl, rfl, trivial⟩ ?_
  exact cl_Composer_findsSortsIn1 (u := I 9 1) hn hC hb1 tw wl hpre (f2 9 1 (by omega)) (fun e I9 G9 h1 h2 => hK e I9 G9 (fun a k h => (h1 a k h).trans (f2 a k h)) h2) _ _ _ _ (by omega) (fun _ _ _ => rfl) (by omega) (Nat.lt_succ_self _)
set_option maxHeartbeats 8000000 in
theorem cl_Floor_addLines {L : Nat} {xs : Nat → Int32} {n sl : Nat} {T : Nat → zT} {I : Nat → Nat → Int} {P : Nat → Nat → Option Nat} {K : List zV → zH → Prop} {c : Int} {x : Nat} (hn : 90 ≤ n) (hC : ∀ a, 1 ≤ a → a ≤ 55 → T a = zFixC a) (hc : 0 ≤ c ∧ c ≤ 40) (ix : x = 23 ∨ x = 30 ∨ x = 42 ∨ x = 49) (hpre : ∀ j : Nat, (j : Int) < c → ∃ q, P 10 j = some q) (hK : ∀ I2 P2 G2, (∀ a k, a ≠ x + 1 → ¬ (a = x ∧ (k = 6 ∨ k = 8)) → I2 a k = I a k) → (∀ a k, a ≠ x + 4 → P2 a k = P a k) → I2 x 8 = 0 → (∀ j : Nat, (j : Int) < I2 x 6 → ∃ q, P2 (x + 4) j = some q) → K [] (n, sl, T, I2, P2, G2)) (m : Nat) : ∀ (I2 : Nat → Nat → Int) (P2 : Nat → Nat → Option Nat) (G2 : Nat → Nat → Int), ∀ (k u : Int), I2 x 6 = u → 0 ≤ k ∧ k ≤ 40 → 0 ≤ u ∧ u ≤ 89 → (∀ a k, a ≠ x + 1 → ¬ (a = x ∧ k = 6) → I2 a k = I a k) → (∀ a k, a ≠ x + 4 → P2 a k = P a k) → (∀ j : Nat, (j : Int) < u → ∃ q, P2 (x + 4) j = some q) → k ≤ c → (40 - k).toNat < m → zB zMd L xs 27 2 [(0, .inr (.inl (some x))), (1, .inr (.inl (some 10))), (2, .inl c), (3, .inl k)] [] (n, sl, T, I2, P2, G2) K := by
  have t10 : T 10 = (2, 6, [40, 1]) := hC 10 (by decide) (by decide)
  have tx := zFl_t hC ix
  induction m with
  | zero => intro I2 P2 G2 k u h6 hk hu hI2 hp4 hpr hb3 hm; omega
  | succ m ih =>
    intro I2 P2 G2 k u h6 hk hu hI2 hp4 hpr hb3 hm
    refine z_iload_n (pc2 := 3) rfl rfl rfl ?_
    refine z_iload_n (pc2 := 4) rfl rfl rfl ?_
    refine z_icmp_ge (t := 56) (pc2 := 7) rfl rfl rfl (by omega) (by omega) (fun c1 => ?_) (fun c1 => ?_)
    ·
      refine z_aload_n (pc2 := 57) rfl rfl rfl ?_
      refine z_iconst (pc2 := 58) rfl rfl ?_
      refine z_putI (pc2 := 61) rfl rfl rfl rfl rfl rfl tx.1 (by omega) (by show (0 : Int) ≤ _ ∧ _ ≤ 89; omega) ?_
      refine z_ret rfl rfl ?_
      exact hK _ _ _ (fun a k h1 h2 => by rw [zU_ne2 (by omega)]; exact hI2 a k h1 (by omega)) hp4 (by simp [zU]) (fun j hj => hpr j (by rw [zU_ne2 (by omega), h6] at hj; exact hj))
    ·
      refine z_aload_n (pc2 := 8) rfl rfl rfl ?_
      refine z_getI (pc2 := 11) 0 rfl rfl rfl rfl rfl tx.1 ?_
      intro v2 e2 r2 k2
      replace k2 : (0 : Int) ≤ v2 ∧ v2 ≤ 89 := k2
      replace e2 : u = v2 := by rw [e2]; first | exact h6 | exact Eq.symm h6 | (simp [zU]; first | done | exact h6 | exact Eq.symm h6 | omega) | (refine Eq.trans (congrArg _ ?_) (Eq.symm h6); omega)
      subst e2
      refine z_bipush (pc2 := 13) rfl rfl (by decide) ?_
      refine z_icmp_ge (t := 56) (pc2 := 16) rfl rfl rfl (by omega) (by omega) (fun c3 => ?_) (fun c3 => ?_)
      ·
        refine z_aload_n (pc2 := 57) rfl rfl rfl ?_
        refine z_iconst (pc2 := 58) rfl rfl ?_
        refine z_putI (pc2 := 61) rfl rfl rfl rfl rfl rfl tx.1 (by omega) (by show (0 : Int) ≤ _ ∧ _ ≤ 89; omega) ?_
        refine z_ret rfl rfl ?_
        exact hK _ _ _ (fun a k h1 h2 => by rw [zU_ne2 (by omega)]; exact hI2 a k h1 (by omega)) hp4 (by simp [zU]) (fun j hj => hpr j (by rw [zU_ne2 (by omega), h6] at hj; exact hj))
      ·
        refine z_aload_n (pc2 := 17) rfl rfl rfl ?_
        refine z_iload_n (pc2 := 18) rfl rfl rfl ?_
        refine z_aald (pc2 := 19) rfl rfl t10 rfl (by omega) (by omega) (by omega) ?_
        intro p4 p4e p4k
        rcases p4k with rfl | ⟨q5, rfl, q59, tq5⟩
        ·
          exact (zNn hpre (by rw [← hp4 _ _ (by omega)]; exact p4e) (by omega)).elim
        ·
          replace tq5 : _ = ((1, 4, [1]) : zT) := tq5
          refine zB_le tq5 trivial (fun q5l => ?_)
          refine z_aload_n (pc2 := 20) rfl rfl rfl ?_
          refine z_getP (pc2 := 23) rfl rfl rfl rfl tx.1 ?_
          intro p6 p6e p6k
          replace p6k : p6 = some (x + 1) := p6k; clear p6e; subst p6k
          refine z_iconst (pc2 := 24) rfl rfl ?_
          refine z_callV (y2 := 50) (as := [_, _]) (rest := []) (pc2 := 27) rfl rfl rfl rfl tq5 rfl ?_
          refine c_Line_moveSorts hn hC (by omega) tq5 (by omega) tx.2.1 (by omega) (fun w7 I7 G7 f7 => ?_)
          show zB _ _ _ _ _ _ [_] _ _
          refine z_pop (pc2 := 28) rfl rfl rfl ?_
          refine z_aload_n (pc2 := 29) rfl rfl rfl ?_
          refine z_getP (pc2 := 32) rfl rfl rfl rfl tx.1 ?_
          intro p8 p8e p8k
          replace p8k : p8 = some (x + 4) := p8k; clear p8e; subst p8k
          refine z_aload_n (pc2 := 33) rfl rfl rfl ?_
          refine z_getI (pc2 := 36) 0 rfl rfl rfl rfl rfl tx.1 ?_
          intro v9 e9 r9 k9
          replace k9 : (0 : Int) ≤ v9 ∧ v9 ≤ 89 := k9
          replace e9 : u = v9 := by rw [e9]; first | exact ((f7 x 6 (by omega)).trans h6) | exact Eq.symm ((f7 x 6 (by omega)).trans h6) | (simp [zU]; first | done | exact ((f7 x 6 (by omega)).trans h6) | exact Eq.symm ((f7 x 6 (by omega)).trans h6) | omega) | (refine Eq.trans (congrArg _ ?_) (Eq.symm ((f7 x 6 (by omega)).trans h6)); omega)
          subst e9
          refine z_aload_n (pc2 := 37) rfl rfl rfl ?_
          refine z_iload_n (pc2 := 38) rfl rfl rfl ?_
          refine z_aald (pc2 := 39) rfl rfl t10 rfl (by omega) (by omega) (by omega) ?_
          intro p10 p10e p10k
          rcases p10k with rfl | ⟨q11, rfl, q119, tq11⟩
          ·
            exact (zNn hpre (by rw [← hp4 _ _ (by omega)]; exact p10e) (by omega)).elim
          ·
            replace tq11 : _ = ((1, 4, [1]) : zT) := tq11
            refine zB_le tq11 trivial (fun q11l => ?_)
            refine z_aast (pc2 := 40) rfl rfl tx.2.2.2.2.1 rfl (by omega) (by omega) (by omega) (fun b hb => by cases hb; rw [tq11]; exact ⟨_, rfl, rfl⟩) (Or.inr ⟨_, rfl, by omega, tq11⟩) ?_
            refine z_aload_n (pc2 := 41) rfl rfl rfl ?_
            refine z_dup (pc2 := 42) rfl rfl rfl ?_
            refine z_getI (pc2 := 45) 0 rfl rfl rfl rfl rfl tx.1 ?_
            intro v12 e12 r12 k12
            replace k12 : (0 : Int) ≤ v12 ∧ v12 ≤ 89 := k12
            replace e12 : u = v12 := by rw [e12]; first | exact ((f7 x 6 (by omega)).trans h6) | exact Eq.symm ((f7 x 6 (by omega)).trans h6) | (simp [zU]; first | done | exact ((f7 x 6 (by omega)).trans h6) | exact Eq.symm ((f7 x 6 (by omega)).trans h6) | omega) | (refine Eq.trans (congrArg _ ?_) (Eq.symm ((f7 x 6 (by omega)).trans h6)); omega)
            subst e12
            refine z_iconst (pc2 := 46) rfl rfl ?_
            refine z_iadd (pc2 := 47) rfl rfl ?_
            refine z_putI (pc2 := 50) rfl rfl rfl rfl rfl rfl tx.1 (by omega) (by show (0 : Int) ≤ _ ∧ _ ≤ 89; omega) ?_
            refine z_iinc (lv2 := [(3, _), (0, _), (1, _), (2, _)]) (pc2 := 53) rfl rfl rfl rfl rfl ?_
            refine z_goto (pc2 := 2) rfl rfl ?_
            refine z_lv (lv2 := [(0, _), (1, _), (2, _), (3, _)]) ⟨rfl, rfl, rfl, rfl, trivial⟩ ?_
            exact ih _ _ _ _ _ (zU_same _ _ _ _) (by omega) (by omega) (fun a k h1 h2 => by rw [zU_ne2 (by omega), f7 a k (by omega)]; exact hI2 a k h1 h2) (fun a k h => by rw [zU_row _ _ _ h]; exact hp4 a k h) (zPre4_s hpr) (by omega) (by omega)
set_option maxHeartbeats 8000000 in
theorem c_Floor_addLines {L : Nat} {xs : Nat → Int32} {n sl : Nat} {T : Nat → zT} {I : Nat → Nat → Int} {P : Nat → Nat → Option Nat} {G : Nat → Nat → Int} {K : List zV → zH → Prop} {c : Int} {x : Nat} (hn : 90 ≤ n) (hC : ∀ a, 1 ≤ a → a ≤ 55 → T a = zFixC a) (hc : 0 ≤ c ∧ c ≤ 40) (ix : x = 23 ∨ x = 30 ∨ x = 42 ∨ x = 49) (hfl : zFlr T I P x) (hpre : ∀ j : Nat, (j : Int) < c → ∃ q, P 10 j = some q) (hK : ∀ I2 P2 G2, (∀ a k, a ≠ x + 1 → ¬ (a = x ∧ (k = 6 ∨ k = 8)) → I2 a k = I a k) → (∀ a k, a ≠ x + 4 → P2 a k = P a k) → I2 x 8 = 0 → (∀ j : Nat, (j : Int) < I2 x 6 → ∃ q, P2 (x + 4) j = some q) → K [] (n, sl, T, I2, P2, G2)) : zX zMd L xs 27 [.inr (.inl (some x)), .inr (.inl (some 10)), .inl c] (n, sl, T, I, P, G) K := by
  have tx := zFl_t hC ix
  refine zX_wf2 (fun hw => ?_)
  have b6 : 0 ≤ I x 6 ∧ I x 6 ≤ 89 := by have h1 := hw.2.1 x 6; rw [show (n, sl, T, I, P, G).2.2.1 x = T x from rfl, tx.1] at h1; exact h1
  have tx := zFl_t hC ix
  refine z_inl ?_
  refine z_lv (lv2 := [(0, _), (1, _), (2, _)]) ⟨rfl, rfl, rfl, trivial⟩ ?_
  refine z_iconst (pc2 := 1) rfl rfl ?_
  refine z_istore_n (lv2 := [(3, _), (0, _), (1, _), (2, _)]) (pc2 := 2) rfl rfl rfl rfl ?_
  refine z_lv (lv2 := [(0, _), (1, _), (2, _), (3, _)]) ⟨rfl, rfl, rfl, rfl, trivial⟩ ?_
  exact cl_Floor_addLines hn hC (by omega) ix hpre hK _ _ _ _ _ (I x 6) rfl (by omega) b6 (fun _ _ _ _ => rfl) (fun _ _ _ => rfl) hfl.1 (by omega) (Nat.lt_succ_self _)
set_option maxHeartbeats 8000000 in
theorem c_TypeRoom_set {L : Nat} {xs : Nat → Int32} {n sl : Nat} {T : Nat → zT} {I : Nat → Nat → Int} {P : Nat → Nat → Option Nat} {G : Nat → Nat → Int} {K : List zV → zH → Prop} {a c d : Int} (hn : 90 ≤ n) (hC : ∀ a, 1 ≤ a → a ≤ 55 → T a = zFixC a) (ha : zR a) (hc : zR c) (hd : zR d) (hcr : zCR T I P) (hK : ∀ e n2 sl2 T2 I2 P2 G2, zCP n T T2 I I2 P P2 → (n ≤ n2 ∧ n2 ≤ n + 280 ∧ sl2 ≤ sl + 4800) → K [.inl e] (n2, sl2, T2, I2, P2, G2)) : zX zMd L xs 126 [.inr (.inl (some 1)), .inl a, .inl c, .inl d] (n, sl, T, I, P, G) K := by
  have t1 : T 1 = (1, 11, [1]) := hC 1 (by decide) (by decide)
  have t5 : T 5 = (1, 7, [1]) := hC 5 (by decide) (by decide)
  have t9 : T 9 = (1, 0, [1]) := hC 9 (by decide) (by decide)
  refine z_inl ?_
  refine z_lv (lv2 := [(0, _), (1, _), (2, _), (3, _)]) ⟨rfl, rfl, rfl, rfl, trivial⟩ ?_
  refine z_iload_n (pc2 := 1) rfl rfl rfl ?_
  refine z_callS (y2 := 152) (as := [_]) (rest := []) (pc2 := 4) rfl rfl rfl rfl ?_
  refine z_inl ?_
  refine z_lv (lv2 := [(0, _)]) ⟨rfl, trivial⟩ ?_
  refine z_iload_n (pc2 := 1) rfl rfl rfl ?_
  refine z_iconst (pc2 := 2) rfl rfl ?_
  refine z_bipush (pc2 := 4) rfl rfl (by decide) ?_
  refine z_callS (y2 := 155) (as := [_, _, _]) (rest := []) (pc2 := 7) rfl rfl rfl rfl ?_
  refine c_TypeRoom_isOutside (by omega) (by omega) (by omega) (fun e1 e1a e1b e1c => ?_)
  show zB _ _ _ _ _ _ [_] _ _
  refine z_zret rfl rfl (by omega) ?_
  show zB _ _ _ _ _ _ [_] _ _
  refine z_if_ne (t := 21) (pc2 := 7) rfl rfl rfl (by omega) (fun c2 => ?_) (fun c2 => ?_)
  ·
    refine z_aload_n (pc2 := 22) rfl rfl rfl ?_
    refine z_iconst (pc2 := 23) rfl rfl ?_
    refine z_callV (y2 := 142) (as := [_]) (rest := []) (pc2 := 26) rfl rfl rfl rfl t1 rfl ?_
    refine z_inl ?_
    refine z_lv (lv2 := [(0, _), (1, _)]) ⟨rfl, rfl, trivial⟩ ?_
    refine z_aload_n (pc2 := 1) rfl rfl rfl ?_
    refine z_iload_n (pc2 := 2) rfl rfl rfl ?_
    refine z_putI (pc2 := 5) rfl rfl rfl rfl rfl rfl t1 (by omega) True.intro ?_
    refine z_iload_n (pc2 := 6) rfl rfl rfl ?_
    refine z_iret rfl rfl ?_
    show zB _ _ _ _ _ _ [_] _ _
    refine z_iret rfl rfl ?_
    exact hK _ _ _ _ _ _ _ (zCP_q ⟨zTn_rf, (zQi_u zQi_rf (by unfold zIr; omega)), zQp_rf⟩ (zTm_rf _)) (by omega)
  ·
    refine z_iload_n (pc2 := 8) rfl rfl rfl ?_
    refine z_callS (y2 := 151) (as := [_]) (rest := []) (pc2 := 11) rfl rfl rfl rfl ?_
    refine z_inl ?_
    refine z_lv (lv2 := [(0, _)]) ⟨rfl, trivial⟩ ?_
    refine z_iload_n (pc2 := 1) rfl rfl rfl ?_
    refine z_iconst (pc2 := 2) rfl rfl ?_
    refine z_iconst (pc2 := 3) rfl rfl ?_
    refine z_callS (y2 := 155) (as := [_, _, _]) (rest := []) (pc2 := 6) rfl rfl rfl rfl ?_
    refine c_TypeRoom_isOutside (by omega) (by omega) (by omega) (fun e3 e3a e3b e3c => ?_)
    show zB _ _ _ _ _ _ [_] _ _
    refine z_zret rfl rfl (by omega) ?_
    show zB _ _ _ _ _ _ [_] _ _
    refine z_if_ne (t := 21) (pc2 := 14) rfl rfl rfl (by omega) (fun c4 => ?_) (fun c4 => ?_)
    ·
      refine z_aload_n (pc2 := 22) rfl rfl rfl ?_
      refine z_iconst (pc2 := 23) rfl rfl ?_
      refine z_callV (y2 := 142) (as := [_]) (rest := []) (pc2 := 26) rfl rfl rfl rfl t1 rfl ?_
      refine z_inl ?_
      refine z_lv (lv2 := [(0, _), (1, _)]) ⟨rfl, rfl, trivial⟩ ?_
      refine z_aload_n (pc2 := 1) rfl rfl rfl ?_
      refine z_iload_n (pc2 := 2) rfl rfl rfl ?_
      refine z_putI (pc2 := 5) rfl rfl rfl rfl rfl rfl t1 (by omega) True.intro ?_
      refine z_iload_n (pc2 := 6) rfl rfl rfl ?_
      refine z_iret rfl rfl ?_
      show zB _ _ _ _ _ _ [_] _ _
      refine z_iret rfl rfl ?_
      exact hK _ _ _ _ _ _ _ (zCP_q ⟨zTn_rf, (zQi_u zQi_rf (by unfold zIr; omega)), zQp_rf⟩ (zTm_rf _)) (by omega)
    ·
      refine z_iload_n (pc2 := 15) rfl rfl rfl ?_
      refine z_sipush (pc2 := 18) rfl rfl (by decide) ?_
      refine z_icmp_le (t := 27) (pc2 := 21) rfl rfl rfl (by omega) (by omega) (fun c5 => ?_) (fun c5 => ?_)
      ·
        refine z_aload_n (pc2 := 28) rfl rfl rfl ?_
        refine z_getP (pc2 := 31) rfl rfl rfl rfl t1 ?_
        intro p6 p6e p6k
        obtain ⟨b7, rfl, hb7⟩ := zHere p6k
        have tb7 := zRm_t hC hb7
        refine z_getP (pc2 := 34) rfl rfl rfl rfl tb7.1 ?_
        intro p8 p8e p8k
        obtain ⟨x9, rfl, hx9⟩ := zFloorOf p8k
        have ix9 : x9 = 23 ∨ x9 = 30 ∨ x9 = 42 ∨ x9 = 49 := by omega
        have tx9 := zFl_t hC ix9
        refine z_getI (pc2 := 37) 0 rfl rfl rfl rfl rfl tx9.1 ?_
        intro v10 e10 r10 k10
        replace k10 : (0 : Int) ≤ v10 ∧ v10 ≤ 89 := k10
        refine z_bipush (pc2 := 39) rfl rfl (by decide) ?_
        refine z_icmp_ge (t := 49) (pc2 := 42) rfl rfl rfl (by omega) (by omega) (fun c11 => ?_) (fun c11 => ?_)
        ·
          refine z_aload_n (pc2 := 50) rfl rfl rfl ?_
          refine z_bipush (pc2 := 52) rfl rfl (by decide) ?_
          refine z_callV (y2 := 142) (as := [_]) (rest := []) (pc2 := 55) rfl rfl rfl rfl t1 rfl ?_
          refine z_inl ?_
          refine z_lv (lv2 := [(0, _), (1, _)]) ⟨rfl, rfl, trivial⟩ ?_
          refine z_aload_n (pc2 := 1) rfl rfl rfl ?_
          refine z_iload_n (pc2 := 2) rfl rfl rfl ?_
          refine z_putI (pc2 := 5) rfl rfl rfl rfl rfl rfl t1 (by omega) True.intro ?_
          refine z_iload_n (pc2 := 6) rfl rfl rfl ?_
          refine z_iret rfl rfl ?_
          show zB _ _ _ _ _ _ [_] _ _
          refine z_iret rfl rfl ?_
          exact hK _ _ _ _ _ _ _ (zCP_q ⟨zTn_rf, (zQi_u zQi_rf (by unfold zIr; omega)), zQp_rf⟩ (zTm_rf _)) (by omega)
        ·
          refine z_aload_n (pc2 := 43) rfl rfl rfl ?_
          refine z_callV (y2 := 148) (as := []) (rest := []) (pc2 := 46) rfl rfl rfl rfl t1 rfl ?_
          refine z_inl ?_
          refine z_lv (lv2 := [(0, _)]) ⟨rfl, trivial⟩ ?_
          refine z_aload_n (pc2 := 1) rfl rfl rfl ?_
          refine z_getI (pc2 := 4) 0 rfl rfl rfl rfl rfl t1 ?_
          intro v12 e12 r12 k12
          clear k12
          clear e12
          refine z_sipush (pc2 := 7) rfl rfl (by decide) ?_
          refine z_icmp_lt (t := 14) (pc2 := 10) rfl rfl rfl (by omega) (by omega) (fun c13 => ?_) (fun c13 => ?_)
          ·
            refine z_iconst (pc2 := 15) rfl rfl ?_
            refine z_zret rfl rfl (by omega) ?_
            show zB _ _ _ _ _ _ [_] _ _
            refine z_if_eq (t := 56) (pc2 := 49) rfl rfl rfl (by omega) (fun c14 => ?_) (fun c14 => by exfalso; omega)
            refine z_aload_n (pc2 := 57) rfl rfl rfl ?_
            refine z_getP (pc2 := 60) rfl rfl rfl rfl t1 ?_
            intro p15 p15e p15k
            clear p15k; replace p15e : p15 = some b7 := by rw [p15e]; first | exact p6e | exact Eq.symm p6e | (simp [zU]; first | done | exact p6e | exact Eq.symm p6e | omega) | (refine Eq.trans (congrArg _ ?_) (Eq.symm p6e); omega)
            subst p15e
            refine z_getP (pc2 := 63) rfl rfl rfl rfl tb7.1 ?_
            intro p16 p16e p16k
            replace p16k : p16 = some (b7 + 3) := p16k; clear p16e; subst p16k
            refine z_iload_n (pc2 := 64) rfl rfl rfl ?_
            refine z_aald (pc2 := 65) rfl rfl tb7.2.2.2.1 rfl (by omega) (by omega) (by omega) ?_
            intro p17 p17e p17k
            rcases p17k with rfl | ⟨q18, rfl, q189, m19, tq18, q18b⟩
            ·
              refine z_astore (lv2 := [(4, _), (0, _), (1, _), (2, _), (3, _)]) (pc2 := 67) rfl rfl rfl rfl ?_
              refine z_aload_n (pc2 := 68) rfl rfl rfl ?_
              refine z_getP (pc2 := 71) rfl rfl rfl rfl t1 ?_
              intro p20 p20e p20k
              clear p20k; replace p20e : p20 = some b7 := by rw [p20e]; first | exact p6e | exact Eq.symm p6e | (simp [zU]; first | done | exact p6e | exact Eq.symm p6e | omega) | (refine Eq.trans (congrArg _ ?_) (Eq.symm p6e); omega)
              subst p20e
              refine z_getP (pc2 := 74) rfl rfl rfl rfl tb7.1 ?_
              intro p21 p21e p21k
              replace p21k : p21 = some (b7 + 1) := p21k; clear p21e; subst p21k
              refine z_iload_n (pc2 := 75) rfl rfl rfl ?_
              refine z_aald (pc2 := 76) rfl rfl tb7.2.1 rfl (by omega) (by omega) (by omega) ?_
              intro p22 p22e p22k
              rcases p22k with rfl | ⟨q23, rfl, q239, n24, tq23, q23b⟩
              ·
                refine z_astore (lv2 := [(5, _), (4, _), (0, _), (1, _), (2, _), (3, _)]) (pc2 := 78) rfl rfl rfl rfl ?_
                refine z_aload (pc2 := 80) rfl rfl rfl ?_
                refine z_ifnull (t := 88) (pc2 := 83) rfl rfl rfl (fun _ => ?_) (fun a h => by cases h)
                refine z_aload_n (pc2 := 89) rfl rfl rfl ?_
                refine z_bipush (pc2 := 91) rfl rfl (by decide) ?_
                refine z_callV (y2 := 143) (as := [_]) (rest := []) (pc2 := 94) rfl rfl rfl rfl t1 rfl ?_
                refine z_inl ?_
                refine z_lv (lv2 := [(0, _), (1, _)]) ⟨rfl, rfl, trivial⟩ ?_
                refine z_aload_n (pc2 := 1) rfl rfl rfl ?_
                refine z_dup (pc2 := 2) rfl rfl rfl ?_
                refine z_getI (pc2 := 5) 0 rfl rfl rfl rfl rfl t1 ?_
                intro v25 e25 r25 k25
                clear k25
                clear e25
                refine z_iconst (pc2 := 6) rfl rfl ?_
                refine z_iadd (pc2 := 7) rfl rfl ?_
                refine z_putI_any (pc2 := 10) rfl rfl rfl rfl rfl rfl t1 (fun _ _ => True.intro) (fun u26 u26r => ?_)
                refine z_aload_n (pc2 := 11) rfl rfl rfl ?_
                refine z_iload_n (pc2 := 12) rfl rfl rfl ?_
                refine z_putI (pc2 := 15) rfl rfl rfl rfl rfl rfl t1 (by omega) True.intro ?_
                refine z_iload_n (pc2 := 16) rfl rfl rfl ?_
                refine z_iret rfl rfl ?_
                show zB _ _ _ _ _ _ [_] _ _
                refine z_iret rfl rfl ?_
                exact hK _ _ _ _ _ _ _ (zCP_q ⟨zTn_rf, (zQi_u (zQi_u zQi_rf (by unfold zIr; omega)) (by unfold zIr; omega)), zQp_rf⟩ (zTm_rf _)) (by omega)
              ·
                replace tq23 : _ = ((1, 3, [n24]) : zT) := tq23
                refine zB_le tq23 trivial (fun q23l => ?_)
                refine z_astore (lv2 := [(5, _), (4, _), (0, _), (1, _), (2, _), (3, _)]) (pc2 := 78) rfl rfl rfl rfl ?_
                refine z_aload (pc2 := 80) rfl rfl rfl ?_
                refine z_ifnull (t := 88) (pc2 := 83) rfl rfl rfl (fun _ => ?_) (fun a h => by cases h)
                refine z_aload_n (pc2 := 89) rfl rfl rfl ?_
                refine z_bipush (pc2 := 91) rfl rfl (by decide) ?_
                refine z_callV (y2 := 143) (as := [_]) (rest := []) (pc2 := 94) rfl rfl rfl rfl t1 rfl ?_
                refine z_inl ?_
                refine z_lv (lv2 := [(0, _), (1, _)]) ⟨rfl, rfl, trivial⟩ ?_
                refine z_aload_n (pc2 := 1) rfl rfl rfl ?_
                refine z_dup (pc2 := 2) rfl rfl rfl ?_
                refine z_getI (pc2 := 5) 0 rfl rfl rfl rfl rfl t1 ?_
                intro v27 e27 r27 k27
                clear k27
                clear e27
                refine z_iconst (pc2 := 6) rfl rfl ?_
                refine z_iadd (pc2 := 7) rfl rfl ?_
                refine z_putI_any (pc2 := 10) rfl rfl rfl rfl rfl rfl t1 (fun _ _ => True.intro) (fun u28 u28r => ?_)
                refine z_aload_n (pc2 := 11) rfl rfl rfl ?_
                refine z_iload_n (pc2 := 12) rfl rfl rfl ?_
                refine z_putI (pc2 := 15) rfl rfl rfl rfl rfl rfl t1 (by omega) True.intro ?_
                refine z_iload_n (pc2 := 16) rfl rfl rfl ?_
                refine z_iret rfl rfl ?_
                show zB _ _ _ _ _ _ [_] _ _
                refine z_iret rfl rfl ?_
                exact hK _ _ _ _ _ _ _ (zCP_q ⟨zTn_rf, (zQi_u (zQi_u zQi_rf (by unfold zIr; omega)) (by unfold zIr; omega)), zQp_rf⟩ (zTm_rf _)) (by omega)
            ·
              replace tq18 : _ = ((2, 0, [(m19), 25]) : zT) := tq18
              refine zB_le tq18 trivial (fun q18l => ?_)
              refine z_astore (lv2 := [(4, _), (0, _), (1, _), (2, _), (3, _)]) (pc2 := 67) rfl rfl rfl rfl ?_
              refine z_aload_n (pc2 := 68) rfl rfl rfl ?_
              refine z_getP (pc2 := 71) rfl rfl rfl rfl t1 ?_
              intro p29 p29e p29k
              clear p29k; replace p29e : p29 = some b7 := by rw [p29e]; first | exact p6e | exact Eq.symm p6e | (simp [zU]; first | done | exact p6e | exact Eq.symm p6e | omega) | (refine Eq.trans (congrArg _ ?_) (Eq.symm p6e); omega)
              subst p29e
              refine z_getP (pc2 := 74) rfl rfl rfl rfl tb7.1 ?_
              intro p30 p30e p30k
              replace p30k : p30 = some (b7 + 1) := p30k; clear p30e; subst p30k
              refine z_iload_n (pc2 := 75) rfl rfl rfl ?_
              refine z_aald (pc2 := 76) rfl rfl tb7.2.1 rfl (by omega) (by omega) (by omega) ?_
              intro p31 p31e p31k
              rcases p31k with rfl | ⟨q32, rfl, q329, n33, tq32, q32b⟩
              ·
                refine z_astore (lv2 := [(5, _), (4, _), (0, _), (1, _), (2, _), (3, _)]) (pc2 := 78) rfl rfl rfl rfl ?_
                refine z_aload (pc2 := 80) rfl rfl rfl ?_
                refine z_ifnull (t := 88) (pc2 := 83) rfl rfl rfl (fun h => by cases h) (fun _ _ => ?_)
                refine z_aload (pc2 := 85) rfl rfl rfl ?_
                refine z_ifnonnull (t := 95) (pc2 := 88) rfl rfl rfl (fun a h => by cases h) (fun _ => ?_)
                refine z_aload_n (pc2 := 89) rfl rfl rfl ?_
                refine z_bipush (pc2 := 91) rfl rfl (by decide) ?_
                refine z_callV (y2 := 143) (as := [_]) (rest := []) (pc2 := 94) rfl rfl rfl rfl t1 rfl ?_
                refine z_inl ?_
                refine z_lv (lv2 := [(0, _), (1, _)]) ⟨rfl, rfl, trivial⟩ ?_
                refine z_aload_n (pc2 := 1) rfl rfl rfl ?_
                refine z_dup (pc2 := 2) rfl rfl rfl ?_
                refine z_getI (pc2 := 5) 0 rfl rfl rfl rfl rfl t1 ?_
                intro v34 e34 r34 k34
                clear k34
                clear e34
                refine z_iconst (pc2 := 6) rfl rfl ?_
                refine z_iadd (pc2 := 7) rfl rfl ?_
                refine z_putI_any (pc2 := 10) rfl rfl rfl rfl rfl rfl t1 (fun _ _ => True.intro) (fun u35 u35r => ?_)
                refine z_aload_n (pc2 := 11) rfl rfl rfl ?_
                refine z_iload_n (pc2 := 12) rfl rfl rfl ?_
                refine z_putI (pc2 := 15) rfl rfl rfl rfl rfl rfl t1 (by omega) True.intro ?_
                refine z_iload_n (pc2 := 16) rfl rfl rfl ?_
                refine z_iret rfl rfl ?_
                show zB _ _ _ _ _ _ [_] _ _
                refine z_iret rfl rfl ?_
                exact hK _ _ _ _ _ _ _ (zCP_q ⟨zTn_rf, (zQi_u (zQi_u zQi_rf (by unfold zIr; omega)) (by unfold zIr; omega)), zQp_rf⟩ (zTm_rf _)) (by omega)
              ·
                replace tq32 : _ = ((1, 3, [n33]) : zT) := tq32
                refine zB_le tq32 trivial (fun q32l => ?_)
                refine z_astore (lv2 := [(5, _), (4, _), (0, _), (1, _), (2, _), (3, _)]) (pc2 := 78) rfl rfl rfl rfl ?_
                refine z_aload (pc2 := 80) rfl rfl rfl ?_
                refine z_ifnull (t := 88) (pc2 := 83) rfl rfl rfl (fun h => by cases h) (fun _ _ => ?_)
                refine z_aload (pc2 := 85) rfl rfl rfl ?_
                refine z_ifnonnull (t := 95) (pc2 := 88) rfl rfl rfl (fun _ _ => ?_) (fun h => by cases h)
                refine z_iload_n (pc2 := 96) rfl rfl rfl ?_
                refine z_if_ge (t := 106) (pc2 := 99) rfl rfl rfl (by omega) (fun c36 => ?_) (fun c36 => ?_)
                ·
                  refine z_aload_n (pc2 := 107) rfl rfl rfl ?_
                  refine z_getP (pc2 := 110) rfl rfl rfl rfl t1 ?_
                  intro p37 p37e p37k
                  replace p37k : p37 = some 5 := p37k; clear p37e; subst p37k
                  refine z_aload (pc2 := 112) rfl rfl rfl ?_
                  refine z_aload (pc2 := 114) rfl rfl rfl ?_
                  refine z_callV (y2 := 64) (as := [_, _]) (rest := []) (pc2 := 117) rfl rfl rfl rfl t5 rfl ?_
                  refine c_Reading_readAll hn hC (by omega) (by omega) tq18 (by omega) (by omega) tq32 (by omega) (by omega) (fun w38 I38 f38 b38 t38 => ?_)
                  show zB _ _ _ _ _ _ [_] _ _
                  refine z_istore (lv2 := [(6, _), (5, _), (4, _), (0, _), (1, _), (2, _), (3, _)]) (pc2 := 119) rfl rfl rfl rfl ?_
                  refine z_iload (pc2 := 121) rfl rfl rfl ?_
                  refine z_if_eq (t := 131) (pc2 := 124) rfl rfl rfl (by omega) (fun c39 => ?_) (fun c39 => ?_)
                  ·
                    refine z_aload_n (pc2 := 132) rfl rfl rfl ?_
                    refine z_getP (pc2 := 135) rfl rfl rfl rfl t1 ?_
                    intro p40 p40e p40k
                    replace p40k : p40 = some 9 := p40k; clear p40e; subst p40k
                    refine z_aload_n (pc2 := 136) rfl rfl rfl ?_
                    refine z_getP (pc2 := 139) rfl rfl rfl rfl t1 ?_
                    intro p41 p41e p41k
                    replace p41k : p41 = some 5 := p41k; clear p41e; subst p41k
                    refine z_iload_n (pc2 := 140) rfl rfl rfl ?_
                    refine z_iload_n (pc2 := 141) rfl rfl rfl ?_
                    refine z_callV (y2 := 1) (as := [_, _, _]) (rest := []) (pc2 := 144) rfl rfl rfl rfl t9 rfl ?_
                    refine zX_wf2 (fun hw42 => ?_)
                    have c542 : 0 ≤ I38 5 3 ∧ I38 5 3 ≤ 40 := by have h1 : zok (T 5) 3 (I38 5 3) := hw42.2.1 5 3; rw [hC 5 (by decide) (by decide)] at h1; exact h1
                    refine c_Composer_compose (c := I38 5 3) (un := n33) hn hC c542 (by omega) (by simp [zU]) tq32 (by omega) (by omega) rfl (t38 (by omega)) (fun n42 s42 T42 I42 P42 G42 a42 b42 c42 d42 e42 f42 h42 => ?_)
                    show zB _ _ _ _ _ _ [] _ _
                    refine z_aload_n (pc2 := 145) rfl rfl rfl ?_
                    refine z_getP (pc2 := 148) rfl rfl rfl rfl ((a42 _ (by omega)).trans t1) ?_
                    intro p43 p43e p43k
                    replace p43k : p43 = some 9 := p43k; clear p43e; subst p43k
                    refine z_aload_n (pc2 := 149) rfl rfl rfl ?_
                    refine z_getP (pc2 := 152) rfl rfl rfl rfl ((a42 _ (by omega)).trans t1) ?_
                    intro p44 p44e p44k
                    clear p44k; replace p44e : p44 = some b7 := by rw [p44e]; first | exact (by rw [d42 _ _ (by omega)]; first | exact (by rw [zU_row _ _ _ (by omega), zU_row _ _ _ (by omega)]; first | exact p6e | exact Eq.symm p6e) | exact Eq.symm (by rw [zU_row _ _ _ (by omega), zU_row _ _ _ (by omega)]; first | exact p6e | exact Eq.symm p6e)) | exact Eq.symm (by rw [d42 _ _ (by omega)]; first | exact (by rw [zU_row _ _ _ (by omega), zU_row _ _ _ (by omega)]; first | exact p6e | exact Eq.symm p6e) | exact Eq.symm (by rw [zU_row _ _ _ (by omega), zU_row _ _ _ (by omega)]; first | exact p6e | exact Eq.symm p6e)) | (simp [zU]; first | done | exact (by rw [d42 _ _ (by omega)]; first | exact (by rw [zU_row _ _ _ (by omega), zU_row _ _ _ (by omega)]; first | exact p6e | exact Eq.symm p6e) | exact Eq.symm (by rw [zU_row _ _ _ (by omega), zU_row _ _ _ (by omega)]; first | exact p6e | exact Eq.symm p6e)) | exact Eq.symm (by rw [d42 _ _ (by omega)]; first | exact (by rw [zU_row _ _ _ (by omega), zU_row _ _ _ (by omega)]; first | exact p6e | exact Eq.symm p6e) | exact Eq.symm (by rw [zU_row _ _ _ (by omega), zU_row _ _ _ (by omega)]; first | exact p6e | exact Eq.symm p6e)) | omega) | (refine Eq.trans (congrArg _ ?_) (Eq.symm (by rw [d42 _ _ (by omega)]; first | exact (by rw [zU_row _ _ _ (by omega), zU_row _ _ _ (by omega)]; first | exact p6e | exact Eq.symm p6e) | exact Eq.symm (by rw [zU_row _ _ _ (by omega), zU_row _ _ _ (by omega)]; first | exact p6e | exact Eq.symm p6e))); omega)
                    subst p44e
                    refine z_getP (pc2 := 155) rfl rfl rfl rfl ((a42 _ (by omega)).trans tb7.1) ?_
                    intro p45 p45e p45k
                    clear p45k; replace p45e : p45 = some x9 := by rw [p45e]; first | exact (by rw [d42 _ _ (by omega)]; first | exact (by rw [zU_row _ _ _ (by omega), zU_row _ _ _ (by omega)]; first | exact p8e | exact Eq.symm p8e) | exact Eq.symm (by rw [zU_row _ _ _ (by omega), zU_row _ _ _ (by omega)]; first | exact p8e | exact Eq.symm p8e)) | exact Eq.symm (by rw [d42 _ _ (by omega)]; first | exact (by rw [zU_row _ _ _ (by omega), zU_row _ _ _ (by omega)]; first | exact p8e | exact Eq.symm p8e) | exact Eq.symm (by rw [zU_row _ _ _ (by omega), zU_row _ _ _ (by omega)]; first | exact p8e | exact Eq.symm p8e)) | (simp [zU]; first | done | exact (by rw [d42 _ _ (by omega)]; first | exact (by rw [zU_row _ _ _ (by omega), zU_row _ _ _ (by omega)]; first | exact p8e | exact Eq.symm p8e) | exact Eq.symm (by rw [zU_row _ _ _ (by omega), zU_row _ _ _ (by omega)]; first | exact p8e | exact Eq.symm p8e)) | exact Eq.symm (by rw [d42 _ _ (by omega)]; first | exact (by rw [zU_row _ _ _ (by omega), zU_row _ _ _ (by omega)]; first | exact p8e | exact Eq.symm p8e) | exact Eq.symm (by rw [zU_row _ _ _ (by omega), zU_row _ _ _ (by omega)]; first | exact p8e | exact Eq.symm p8e)) | omega) | (refine Eq.trans (congrArg _ ?_) (Eq.symm (by rw [d42 _ _ (by omega)]; first | exact (by rw [zU_row _ _ _ (by omega), zU_row _ _ _ (by omega)]; first | exact p8e | exact Eq.symm p8e) | exact Eq.symm (by rw [zU_row _ _ _ (by omega), zU_row _ _ _ (by omega)]; first | exact p8e | exact Eq.symm p8e))); omega)
                    subst p45e
                    refine z_getP (pc2 := 158) rfl rfl rfl rfl ((a42 _ (by omega)).trans tx9.1) ?_
                    intro p46 p46e p46k
                    replace p46k : p46 = some (x9 + 1) := p46k; clear p46e; subst p46k
                    refine z_callV (y2 := 2) (as := [_]) (rest := []) (pc2 := 161) rfl rfl rfl rfl ((a42 _ (by omega)).trans t9) rfl ?_
                    refine c_Composer_findsSortsIn (by omega) (fun a h1 h2 => (((zTn_t (m := n) zTn_rf a42 (by omega)) : zTn n _ _) a (by omega)).trans (hC a h1 h2)) ((a42 _ (by omega)).trans tx9.2.1) (by omega) f42 e42 (fun w47 I47 G47 f47 b47 => ?_)
                    show zB _ _ _ _ _ _ [_] _ _
                    refine z_if_ne (t := 171) (pc2 := 164) rfl rfl rfl (by omega) (fun c48 => ?_) (fun c48 => ?_)
                    ·
                      refine z_aload_n (pc2 := 172) rfl rfl rfl ?_
                      refine z_getP (pc2 := 175) rfl rfl rfl rfl ((a42 _ (by omega)).trans t1) ?_
                      intro p49 p49e p49k
                      clear p49k; replace p49e : p49 = some b7 := by rw [p49e]; first | exact (by rw [d42 _ _ (by omega)]; first | exact (by rw [zU_row _ _ _ (by omega), zU_row _ _ _ (by omega)]; first | exact p6e | exact Eq.symm p6e) | exact Eq.symm (by rw [zU_row _ _ _ (by omega), zU_row _ _ _ (by omega)]; first | exact p6e | exact Eq.symm p6e)) | exact Eq.symm (by rw [d42 _ _ (by omega)]; first | exact (by rw [zU_row _ _ _ (by omega), zU_row _ _ _ (by omega)]; first | exact p6e | exact Eq.symm p6e) | exact Eq.symm (by rw [zU_row _ _ _ (by omega), zU_row _ _ _ (by omega)]; first | exact p6e | exact Eq.symm p6e)) | (simp [zU]; first | done | exact (by rw [d42 _ _ (by omega)]; first | exact (by rw [zU_row _ _ _ (by omega), zU_row _ _ _ (by omega)]; first | exact p6e | exact Eq.symm p6e) | exact Eq.symm (by rw [zU_row _ _ _ (by omega), zU_row _ _ _ (by omega)]; first | exact p6e | exact Eq.symm p6e)) | exact Eq.symm (by rw [d42 _ _ (by omega)]; first | exact (by rw [zU_row _ _ _ (by omega), zU_row _ _ _ (by omega)]; first | exact p6e | exact Eq.symm p6e) | exact Eq.symm (by rw [zU_row _ _ _ (by omega), zU_row _ _ _ (by omega)]; first | exact p6e | exact Eq.symm p6e)) | omega) | (refine Eq.trans (congrArg _ ?_) (Eq.symm (by rw [d42 _ _ (by omega)]; first | exact (by rw [zU_row _ _ _ (by omega), zU_row _ _ _ (by omega)]; first | exact p6e | exact Eq.symm p6e) | exact Eq.symm (by rw [zU_row _ _ _ (by omega), zU_row _ _ _ (by omega)]; first | exact p6e | exact Eq.symm p6e))); omega)
                      subst p49e
                      refine z_callV (y2 := 77) (as := []) (rest := []) (pc2 := 178) rfl rfl rfl rfl ((a42 _ (by omega)).trans tb7.1) rfl ?_
                      have y50 : zCP n _ _ _ _ _ _ := (zCP_q ⟨(zTn_t (m := n) zTn_rf a42 (by omega)), (zQi_t (zQi_t (zQi_t zQi_rf (fun c k hk => f38 c k (by unfold zIr at hk; omega) (by unfold zIr at hk; omega) (by unfold zIr at hk; omega) (by unfold zIr at hk; omega))) (fun x k hk => c42 x k (by unfold zIr at hk; omega))) (fun x k hk => f47 x k (by unfold zIr at hk; omega))), (zQp_t (zQp_u (zQp_u zQp_rf (by unfold zPr; omega)) (by unfold zPr; omega)) (fun x k hk => d42 x k (by unfold zPr at hk; omega)))⟩ (zTm_tr (zTm_rf _) b42))
                      have c50 := y50.2.1 hcr
                      obtain ⟨z50, hz50, hd50⟩ := zCR_z c50 hb7 (Eq.symm (by rw [d42 _ _ (by omega)]; first | exact (by rw [zU_row _ _ _ (by omega), zU_row _ _ _ (by omega)]; first | exact p8e | exact Eq.symm p8e) | exact Eq.symm (by rw [zU_row _ _ _ (by omega), zU_row _ _ _ (by omega)]; first | exact p8e | exact Eq.symm p8e)))
                      have iz50 : z50 = 23 ∨ z50 = 30 ∨ z50 = 42 ∨ z50 = 49 := by omega
                      refine c_Room_keep (by omega) (fun a h1 h2 => (((zTn_t (m := n) zTn_rf a42 (by omega)) : zTn n _ _) a (by omega)).trans (hC a h1 h2)) hb7 ix9 iz50 (by omega) (c50.2.2 _ ix9) (Eq.symm (by rw [d42 _ _ (by omega)]; first | exact (by rw [zU_row _ _ _ (by omega), zU_row _ _ _ (by omega)]; first | exact p8e | exact Eq.symm p8e) | exact Eq.symm (by rw [zU_row _ _ _ (by omega), zU_row _ _ _ (by omega)]; first | exact p8e | exact Eq.symm p8e))) hz50 (fun I50 P50 G50 k50 f50 => ?_)
                      show zB _ _ _ _ _ _ [] _ _
                      refine z_aload_n (pc2 := 179) rfl rfl rfl ?_
                      refine z_getP (pc2 := 182) rfl rfl rfl rfl ((a42 _ (by omega)).trans t1) ?_
                      intro p51 p51e p51k
                      clear p51k; replace p51e : p51 = some b7 := by rw [p51e]; first | exact (Eq.trans (by rw [d42 _ _ (by omega)]; first | exact (by rw [zU_row _ _ _ (by omega), zU_row _ _ _ (by omega)]; first | exact p6e | exact Eq.symm p6e) | exact Eq.symm (by rw [zU_row _ _ _ (by omega), zU_row _ _ _ (by omega)]; first | exact p6e | exact Eq.symm p6e)) (Eq.symm (k50.2 _ _ (by omega)))) | exact Eq.symm (Eq.trans (by rw [d42 _ _ (by omega)]; first | exact (by rw [zU_row _ _ _ (by omega), zU_row _ _ _ (by omega)]; first | exact p6e | exact Eq.symm p6e) | exact Eq.symm (by rw [zU_row _ _ _ (by omega), zU_row _ _ _ (by omega)]; first | exact p6e | exact Eq.symm p6e)) (Eq.symm (k50.2 _ _ (by omega)))) | (simp [zU]; first | done | exact (Eq.trans (by rw [d42 _ _ (by omega)]; first | exact (by rw [zU_row _ _ _ (by omega), zU_row _ _ _ (by omega)]; first | exact p6e | exact Eq.symm p6e) | exact Eq.symm (by rw [zU_row _ _ _ (by omega), zU_row _ _ _ (by omega)]; first | exact p6e | exact Eq.symm p6e)) (Eq.symm (k50.2 _ _ (by omega)))) | exact Eq.symm (Eq.trans (by rw [d42 _ _ (by omega)]; first | exact (by rw [zU_row _ _ _ (by omega), zU_row _ _ _ (by omega)]; first | exact p6e | exact Eq.symm p6e) | exact Eq.symm (by rw [zU_row _ _ _ (by omega), zU_row _ _ _ (by omega)]; first | exact p6e | exact Eq.symm p6e)) (Eq.symm (k50.2 _ _ (by omega)))) | omega) | (refine Eq.trans (congrArg _ ?_) (Eq.symm (Eq.trans (by rw [d42 _ _ (by omega)]; first | exact (by rw [zU_row _ _ _ (by omega), zU_row _ _ _ (by omega)]; first | exact p6e | exact Eq.symm p6e) | exact Eq.symm (by rw [zU_row _ _ _ (by omega), zU_row _ _ _ (by omega)]; first | exact p6e | exact Eq.symm p6e)) (Eq.symm (k50.2 _ _ (by omega))))); omega)
                      subst p51e
                      refine z_getP (pc2 := 185) rfl rfl rfl rfl ((a42 _ (by omega)).trans tb7.1) ?_
                      intro p52 p52e p52k
                      clear p52k; replace p52e : p52 = some x9 := by rw [p52e]; first | exact (Eq.trans (by rw [d42 _ _ (by omega)]; first | exact (by rw [zU_row _ _ _ (by omega), zU_row _ _ _ (by omega)]; first | exact p8e | exact Eq.symm p8e) | exact Eq.symm (by rw [zU_row _ _ _ (by omega), zU_row _ _ _ (by omega)]; first | exact p8e | exact Eq.symm p8e)) (Eq.symm (k50.2 _ _ (by omega)))) | exact Eq.symm (Eq.trans (by rw [d42 _ _ (by omega)]; first | exact (by rw [zU_row _ _ _ (by omega), zU_row _ _ _ (by omega)]; first | exact p8e | exact Eq.symm p8e) | exact Eq.symm (by rw [zU_row _ _ _ (by omega), zU_row _ _ _ (by omega)]; first | exact p8e | exact Eq.symm p8e)) (Eq.symm (k50.2 _ _ (by omega)))) | (simp [zU]; first | done | exact (Eq.trans (by rw [d42 _ _ (by omega)]; first | exact (by rw [zU_row _ _ _ (by omega), zU_row _ _ _ (by omega)]; first | exact p8e | exact Eq.symm p8e) | exact Eq.symm (by rw [zU_row _ _ _ (by omega), zU_row _ _ _ (by omega)]; first | exact p8e | exact Eq.symm p8e)) (Eq.symm (k50.2 _ _ (by omega)))) | exact Eq.symm (Eq.trans (by rw [d42 _ _ (by omega)]; first | exact (by rw [zU_row _ _ _ (by omega), zU_row _ _ _ (by omega)]; first | exact p8e | exact Eq.symm p8e) | exact Eq.symm (by rw [zU_row _ _ _ (by omega), zU_row _ _ _ (by omega)]; first | exact p8e | exact Eq.symm p8e)) (Eq.symm (k50.2 _ _ (by omega)))) | omega) | (refine Eq.trans (congrArg _ ?_) (Eq.symm (Eq.trans (by rw [d42 _ _ (by omega)]; first | exact (by rw [zU_row _ _ _ (by omega), zU_row _ _ _ (by omega)]; first | exact p8e | exact Eq.symm p8e) | exact Eq.symm (by rw [zU_row _ _ _ (by omega), zU_row _ _ _ (by omega)]; first | exact p8e | exact Eq.symm p8e)) (Eq.symm (k50.2 _ _ (by omega))))); omega)
                      subst p52e
                      refine z_aload_n (pc2 := 186) rfl rfl rfl ?_
                      refine z_getP (pc2 := 189) rfl rfl rfl rfl ((a42 _ (by omega)).trans t1) ?_
                      intro p53 p53e p53k
                      replace p53k : p53 = some 9 := p53k; clear p53e; subst p53k
                      refine z_getP (pc2 := 192) rfl rfl rfl rfl ((a42 _ (by omega)).trans t9) ?_
                      intro p54 p54e p54k
                      replace p54k : p54 = some 10 := p54k; clear p54e; subst p54k
                      refine z_aload_n (pc2 := 193) rfl rfl rfl ?_
                      refine z_getP (pc2 := 196) rfl rfl rfl rfl ((a42 _ (by omega)).trans t1) ?_
                      intro p55 p55e p55k
                      replace p55k : p55 = some 9 := p55k; clear p55e; subst p55k
                      refine z_getI (pc2 := 199) 0 rfl rfl rfl rfl rfl ((a42 _ (by omega)).trans t9) ?_
                      intro v56 e56 r56 k56
                      replace k56 : (0 : Int) ≤ v56 ∧ v56 ≤ 40 := k56
                      refine z_callV (y2 := 27) (as := [_, _]) (rest := []) (pc2 := 202) rfl rfl rfl rfl ((a42 _ (by omega)).trans tx9.1) rfl ?_
                      refine c_Floor_addLines (by omega) (fun a h1 h2 => (((zCP_tr (m := n42) (zCP_tr (m := n42) y50 (zCP_keep2 (n := n42) iz50 hb7 k50 f50) (by omega)) (zCP_q ⟨zTn_rf, zQi_rf, zQp_rf⟩ (zTm_rf _)) (by omega)).1 : zTn n _ _) a (by omega)).trans (hC a h1 h2)) (by omega) ix9 (zFlr_k2 (c50.2.2 _ ix9) ix9 iz50 hb7 (by omega) k50) (fun j hj => by rw [k50.2 _ _ (by omega)]; exact f42 j (by rw [← f47 9 1 (by omega), ← k50.1 9 1 (by omega) (by omega) (by omega) (by omega)]; omega)) (fun I57 P57 G57 f57 p57 a57 b57 => ?_)
                      show zB _ _ _ _ _ _ [] _ _
                      refine z_aload_n (pc2 := 203) rfl rfl rfl ?_
                      refine z_dup (pc2 := 204) rfl rfl rfl ?_
                      refine z_getI (pc2 := 207) 0 rfl rfl rfl rfl rfl ((a42 _ (by omega)).trans t1) ?_
                      intro v58 e58 r58 k58
                      clear k58
                      clear e58
                      refine z_aload_n (pc2 := 208) rfl rfl rfl ?_
                      refine z_getP (pc2 := 211) rfl rfl rfl rfl ((a42 _ (by omega)).trans t1) ?_
                      intro p59 p59e p59k
                      replace p59k : p59 = some 9 := p59k; clear p59e; subst p59k
                      refine z_getI (pc2 := 214) 0 rfl rfl rfl rfl rfl ((a42 _ (by omega)).trans t9) ?_
                      intro v60 e60 r60 k60
                      clear k60
                      clear e60
                      refine z_iadd (pc2 := 215) rfl rfl ?_
                      refine z_putI_any (pc2 := 218) rfl rfl rfl rfl rfl rfl ((a42 _ (by omega)).trans t1) (fun _ _ => True.intro) (fun u61 u61r => ?_)
                      refine z_aload_n (pc2 := 219) rfl rfl rfl ?_
                      refine z_aload_n (pc2 := 220) rfl rfl rfl ?_
                      refine z_getP (pc2 := 223) rfl rfl rfl rfl ((a42 _ (by omega)).trans t1) ?_
                      intro p62 p62e p62k
                      replace p62k : p62 = some 9 := p62k; clear p62e; subst p62k
                      refine z_getI (pc2 := 226) 0 rfl rfl rfl rfl rfl ((a42 _ (by omega)).trans t9) ?_
                      intro v63 e63 r63 k63
                      replace k63 : (0 : Int) ≤ v63 ∧ v63 ≤ 40 := k63
                      refine z_callV (y2 := 144) (as := [_]) (rest := []) (pc2 := 229) rfl rfl rfl rfl ((a42 _ (by omega)).trans t1) rfl ?_
                      refine z_inl ?_
                      refine z_lv (lv2 := [(0, _), (1, _)]) ⟨rfl, rfl, trivial⟩ ?_
                      refine z_aload_n (pc2 := 1) rfl rfl rfl ?_
                      refine z_iconst (pc2 := 2) rfl rfl ?_
                      refine z_putI (pc2 := 5) rfl rfl rfl rfl rfl rfl ((a42 _ (by omega)).trans t1) (by omega) True.intro ?_
                      refine z_iload_n (pc2 := 6) rfl rfl rfl ?_
                      refine z_iret rfl rfl ?_
                      show zB _ _ _ _ _ _ [_] _ _
                      refine z_iret rfl rfl ?_
                      exact hK _ _ _ _ _ _ _ (zCP_tr (m := n42) (zCP_tr (m := n42) (zCP_tr (m := n42) (zCP_tr (m := n42) y50 (zCP_keep2 (n := n42) iz50 hb7 k50 f50) (by omega)) (zCP_q ⟨zTn_rf, zQi_rf, zQp_rf⟩ (zTm_rf _)) (by omega)) (zCP_al ix9 f57 p57 a57 b57) (by omega)) (zCP_q ⟨zTn_rf, (zQi_u (zQi_u zQi_rf (by unfold zIr; omega)) (by unfold zIr; omega)), zQp_rf⟩ (zTm_rf _)) (by omega)) (by omega)
                    ·
                      refine z_aload_n (pc2 := 165) rfl rfl rfl ?_
                      refine z_bipush (pc2 := 167) rfl rfl (by decide) ?_
                      refine z_callV (y2 := 143) (as := [_]) (rest := []) (pc2 := 170) rfl rfl rfl rfl ((a42 _ (by omega)).trans t1) rfl ?_
                      refine z_inl ?_
                      refine z_lv (lv2 := [(0, _), (1, _)]) ⟨rfl, rfl, trivial⟩ ?_
                      refine z_aload_n (pc2 := 1) rfl rfl rfl ?_
                      refine z_dup (pc2 := 2) rfl rfl rfl ?_
                      refine z_getI (pc2 := 5) 0 rfl rfl rfl rfl rfl ((a42 _ (by omega)).trans t1) ?_
                      intro v64 e64 r64 k64
                      clear k64
                      clear e64
                      refine z_iconst (pc2 := 6) rfl rfl ?_
                      refine z_iadd (pc2 := 7) rfl rfl ?_
                      refine z_putI_any (pc2 := 10) rfl rfl rfl rfl rfl rfl ((a42 _ (by omega)).trans t1) (fun _ _ => True.intro) (fun u65 u65r => ?_)
                      refine z_aload_n (pc2 := 11) rfl rfl rfl ?_
                      refine z_iload_n (pc2 := 12) rfl rfl rfl ?_
                      refine z_putI (pc2 := 15) rfl rfl rfl rfl rfl rfl ((a42 _ (by omega)).trans t1) (by omega) True.intro ?_
                      refine z_iload_n (pc2 := 16) rfl rfl rfl ?_
                      refine z_iret rfl rfl ?_
                      show zB _ _ _ _ _ _ [_] _ _
                      refine z_iret rfl rfl ?_
                      exact hK _ _ _ _ _ _ _ (zCP_q ⟨(zTn_t (m := n) zTn_rf a42 (by omega)), (zQi_u (zQi_u (zQi_t (zQi_t (zQi_t zQi_rf (fun c k hk => f38 c k (by unfold zIr at hk; omega) (by unfold zIr at hk; omega) (by unfold zIr at hk; omega) (by unfold zIr at hk; omega))) (fun x k hk => c42 x k (by unfold zIr at hk; omega))) (fun x k hk => f47 x k (by unfold zIr at hk; omega))) (by unfold zIr; omega)) (by unfold zIr; omega)), (zQp_t (zQp_u (zQp_u zQp_rf (by unfold zPr; omega)) (by unfold zPr; omega)) (fun x k hk => d42 x k (by unfold zPr at hk; omega)))⟩ (zTm_tr (zTm_rf _) b42)) (by omega)
                  ·
                    refine z_aload_n (pc2 := 125) rfl rfl rfl ?_
                    refine z_iload (pc2 := 127) rfl rfl rfl ?_
                    refine z_callV (y2 := 143) (as := [_]) (rest := []) (pc2 := 130) rfl rfl rfl rfl t1 rfl ?_
                    refine z_inl ?_
                    refine z_lv (lv2 := [(0, _), (1, _)]) ⟨rfl, rfl, trivial⟩ ?_
                    refine z_aload_n (pc2 := 1) rfl rfl rfl ?_
                    refine z_dup (pc2 := 2) rfl rfl rfl ?_
                    refine z_getI (pc2 := 5) 0 rfl rfl rfl rfl rfl t1 ?_
                    intro v66 e66 r66 k66
                    clear k66
                    clear e66
                    refine z_iconst (pc2 := 6) rfl rfl ?_
                    refine z_iadd (pc2 := 7) rfl rfl ?_
                    refine z_putI_any (pc2 := 10) rfl rfl rfl rfl rfl rfl t1 (fun _ _ => True.intro) (fun u67 u67r => ?_)
                    refine z_aload_n (pc2 := 11) rfl rfl rfl ?_
                    refine z_iload_n (pc2 := 12) rfl rfl rfl ?_
                    refine z_putI (pc2 := 15) rfl rfl rfl rfl rfl rfl t1 (by omega) True.intro ?_
                    refine z_iload_n (pc2 := 16) rfl rfl rfl ?_
                    refine z_iret rfl rfl ?_
                    show zB _ _ _ _ _ _ [_] _ _
                    refine z_iret rfl rfl ?_
                    exact hK _ _ _ _ _ _ _ (zCP_q ⟨zTn_rf, (zQi_u (zQi_u (zQi_t zQi_rf (fun c k hk => f38 c k (by unfold zIr at hk; omega) (by unfold zIr at hk; omega) (by unfold zIr at hk; omega) (by unfold zIr at hk; omega))) (by unfold zIr; omega)) (by unfold zIr; omega)), (zQp_u (zQp_u zQp_rf (by unfold zPr; omega)) (by unfold zPr; omega))⟩ (zTm_rf _)) (by omega)
                ·
                  refine z_aload_n (pc2 := 100) rfl rfl rfl ?_
                  refine z_bipush (pc2 := 102) rfl rfl (by decide) ?_
                  refine z_callV (y2 := 143) (as := [_]) (rest := []) (pc2 := 105) rfl rfl rfl rfl t1 rfl ?_
                  refine z_inl ?_
                  refine z_lv (lv2 := [(0, _), (1, _)]) ⟨rfl, rfl, trivial⟩ ?_
                  refine z_aload_n (pc2 := 1) rfl rfl rfl ?_
                  refine z_dup (pc2 := 2) rfl rfl rfl ?_
                  refine z_getI (pc2 := 5) 0 rfl rfl rfl rfl rfl t1 ?_
                  intro v68 e68 r68 k68
                  clear k68
                  clear e68
                  refine z_iconst (pc2 := 6) rfl rfl ?_
                  refine z_iadd (pc2 := 7) rfl rfl ?_
                  refine z_putI_any (pc2 := 10) rfl rfl rfl rfl rfl rfl t1 (fun _ _ => True.intro) (fun u69 u69r => ?_)
                  refine z_aload_n (pc2 := 11) rfl rfl rfl ?_
                  refine z_iload_n (pc2 := 12) rfl rfl rfl ?_
                  refine z_putI (pc2 := 15) rfl rfl rfl rfl rfl rfl t1 (by omega) True.intro ?_
                  refine z_iload_n (pc2 := 16) rfl rfl rfl ?_
                  refine z_iret rfl rfl ?_
                  show zB _ _ _ _ _ _ [_] _ _
                  refine z_iret rfl rfl ?_
                  exact hK _ _ _ _ _ _ _ (zCP_q ⟨zTn_rf, (zQi_u (zQi_u zQi_rf (by unfold zIr; omega)) (by unfold zIr; omega)), zQp_rf⟩ (zTm_rf _)) (by omega)
          ·
            refine z_iconst (pc2 := 11) rfl rfl ?_
            refine z_goto (pc2 := 15) rfl rfl ?_
            refine z_zret rfl rfl (by omega) ?_
            show zB _ _ _ _ _ _ [_] _ _
            refine z_if_eq (t := 56) (pc2 := 49) rfl rfl rfl (by omega) (fun c70 => by exfalso; omega) (fun c70 => ?_)
            refine z_aload_n (pc2 := 50) rfl rfl rfl ?_
            refine z_bipush (pc2 := 52) rfl rfl (by decide) ?_
            refine z_callV (y2 := 142) (as := [_]) (rest := []) (pc2 := 55) rfl rfl rfl rfl t1 rfl ?_
            refine z_inl ?_
            refine z_lv (lv2 := [(0, _), (1, _)]) ⟨rfl, rfl, trivial⟩ ?_
            refine z_aload_n (pc2 := 1) rfl rfl rfl ?_
            refine z_iload_n (pc2 := 2) rfl rfl rfl ?_
            refine z_putI (pc2 := 5) rfl rfl rfl rfl rfl rfl t1 (by omega) True.intro ?_
            refine z_iload_n (pc2 := 6) rfl rfl rfl ?_
            refine z_iret rfl rfl ?_
            show zB _ _ _ _ _ _ [_] _ _
            refine z_iret rfl rfl ?_
            exact hK _ _ _ _ _ _ _ (zCP_q ⟨zTn_rf, (zQi_u zQi_rf (by unfold zIr; omega)), zQp_rf⟩ (zTm_rf _)) (by omega)
      ·
        refine z_aload_n (pc2 := 22) rfl rfl rfl ?_
        refine z_iconst (pc2 := 23) rfl rfl ?_
        refine z_callV (y2 := 142) (as := [_]) (rest := []) (pc2 := 26) rfl rfl rfl rfl t1 rfl ?_
        refine z_inl ?_
        refine z_lv (lv2 := [(0, _), (1, _)]) ⟨rfl, rfl, trivial⟩ ?_
        refine z_aload_n (pc2 := 1) rfl rfl rfl ?_
        refine z_iload_n (pc2 := 2) rfl rfl rfl ?_
        refine z_putI (pc2 := 5) rfl rfl rfl rfl rfl rfl t1 (by omega) True.intro ?_
        refine z_iload_n (pc2 := 6) rfl rfl rfl ?_
        refine z_iret rfl rfl ?_
        show zB _ _ _ _ _ _ [_] _ _
        refine z_iret rfl rfl ?_
        exact hK _ _ _ _ _ _ _ (zCP_q ⟨zTn_rf, (zQi_u zQi_rf (by unfold zIr; omega)), zQp_rf⟩ (zTm_rf _)) (by omega)
