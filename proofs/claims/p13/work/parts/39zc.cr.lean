/-! the class: composing -/
set_option maxHeartbeats 8000000 in
theorem cl_Composer_compose {L : Nat} {xs : Nat → Int32} {n sl : Nat} {T : Nat → zT} {I : Nat → Nat → Int} {P : Nat → Nat → Option Nat} {K : List zV → zH → Prop} {p t c un : Int} {fo : Nat} (hn : 90 ≤ n) (hC : ∀ a, 1 ≤ a → a ≤ 55 → T a = zFixC a) (ht : 1 ≤ t ∧ t ≤ 40) (hc : 0 ≤ c ∧ c ≤ 40) (hun : 0 ≤ un ∧ un ≤ 24) (hrd : P 9 6 = some 5) (hcf : P 9 7 = some fo) (tfo : T fo = (1, 3, [un])) (fol : fo ≤ n) (fo9 : 91 ≤ fo) (hrf : P 5 4 = some fo) (hc5 : I 5 3 = c) (htk : zTkn un c I) (hn0 : zNx c 0 I) (hall : zAllN c 0 I) (hK : ∀ n2 s2 T2 I2 P2 G2, zTn n T T2 → zTm T T2 → zQs (zIk n) I I2 → zPs2 (zIj n) P P2 → (0 ≤ I2 9 1 ∧ I2 9 1 ≤ 40) → (∀ j : Nat, (j : Int) < I2 9 1 → ∃ q, P2 10 j = some q) → (n ≤ n2 ∧ n2 ≤ n + 280 ∧ s2 ≤ sl + 4800) → K [] (n2, s2, T2, I2, P2, G2)) (m : Nat) : ∀ (n2 sl2 : Nat) (T2 : Nat → zT) (I2 : Nat → Nat → Int) (P2 : Nat → Nat → Option Nat) (G2 : Nat → Nat → Int), ∀ (f l : Int), I2 9 1 = l → 0 ≤ f ∧ f ≤ 40 → 0 ≤ l ∧ l ≤ 40 → (n ≤ n2 ∧ n2 ≤ n + 3 * f.toNat + 4 * l.toNat ∧ sl2 ≤ sl + 20 * f.toNat + 100 * l.toNat) → zTn n T T2 → zTm T T2 → zQs (zIk n) I I2 → zPs2 (zIj n) P P2 → (∀ j : Nat, (j : Int) < l → ∃ q, P2 10 j = some q) → f ≤ c ∧ l ≤ t → zPl c f I → zRmn I c (t - l).toNat f → (40 - l).toNat < m → zB zMd L xs 1 41 [(0, .inr (.inl (some 9))), (2, .inl p), (4, .inl t), (5, .inl f)] [] (n2, sl2, T2, I2, P2, G2) K := by
  have t7 : T 7 = (2, 0, [40, 21]) := hC 7 (by decide) (by decide)
  have t9 : T 9 = (1, 0, [1]) := hC 9 (by decide) (by decide)
  have t10 : T 10 = (2, 6, [40, 1]) := hC 10 (by decide) (by decide)
  have t12 : T 12 = (2, 0, [41, 22]) := hC 12 (by decide) (by decide)
  induction m with
  | zero => intro n2 sl2 T2 I2 P2 G2 f l hl1 hf hl hI2 htn htm hqi hqp hpre hb3 hpl hrm hm; omega
  | succ m ih =>
    intro n2 sl2 T2 I2 P2 G2 f l hl1 hf hl hI2 htn htm hqi hqp hpre hb3 hpl hrm hm
    refine z_aload_n (pc2 := 42) rfl rfl rfl ?_
    refine z_getI (pc2 := 45) 0 rfl rfl rfl rfl rfl ((htn _ (by omega)).trans t9) ?_
    intro v1 e1 r1 k1
    replace k1 : (0 : Int) ≤ v1 ∧ v1 ≤ 40 := k1
    replace e1 : l = v1 := by rw [e1]; first | exact hl1 | exact Eq.symm hl1 | (simp [zU]; first | done | exact hl1 | exact Eq.symm hl1 | omega) | (refine Eq.trans (congrArg _ ?_) (Eq.symm hl1); omega)
    subst e1
    refine z_iload (pc2 := 47) rfl rfl rfl ?_
    refine z_icmp_ge (t := 97) (pc2 := 50) rfl rfl rfl (by omega) (by omega) (fun c2 => ?_) (fun c2 => ?_)
    ·
      refine z_ret rfl rfl ?_
      exact hK _ _ _ _ _ _ htn htm hqi hqp (by rw [hl1]; omega) (by rw [hl1]; exact hpre) (by omega)
    ·
      refine z_aload_n (pc2 := 51) rfl rfl rfl ?_
      refine z_getP (pc2 := 54) rfl rfl rfl rfl ((htn _ (by omega)).trans t9) ?_
      intro p3 p3e p3k
      replace p3k : p3 = some 10 := p3k; clear p3e; subst p3k
      refine z_aload_n (pc2 := 55) rfl rfl rfl ?_
      refine z_getI (pc2 := 58) 0 rfl rfl rfl rfl rfl ((htn _ (by omega)).trans t9) ?_
      intro v4 e4 r4 k4
      replace k4 : (0 : Int) ≤ v4 ∧ v4 ≤ 40 := k4
      replace e4 : l = v4 := by rw [e4]; first | exact hl1 | exact Eq.symm hl1 | (simp [zU]; first | done | exact hl1 | exact Eq.symm hl1 | omega) | (refine Eq.trans (congrArg _ ?_) (Eq.symm hl1); omega)
      subst e4
      refine z_aload_n (pc2 := 59) rfl rfl rfl ?_
      refine z_iload_n (pc2 := 60) rfl rfl rfl ?_
      refine z_iload (pc2 := 62) rfl rfl rfl ?_
      refine z_iload (pc2 := 64) rfl rfl rfl ?_
      refine z_aload_n (pc2 := 65) rfl rfl rfl ?_
      refine z_getP (pc2 := 68) rfl rfl rfl rfl ((htn _ (by omega)).trans t9) ?_
      intro p5 p5e p5k
      replace p5k : p5 = some 12 := p5k; clear p5e; subst p5k
      refine z_iload (pc2 := 70) rfl rfl rfl ?_
      refine z_iald (pc2 := 71) rfl rfl ((htn _ (by omega)).trans t12) (by omega) (by omega) (by omega) ?_
      intro v6 e6 r6 k6
      replace k6 : (0 : Int) ≤ v6 ∧ v6 ≤ 40 := k6
      refine z_callV (y2 := 15) (as := [_, _, _, _]) (rest := [_, _]) (pc2 := 74) rfl rfl rfl rfl ((htn _ (by omega)).trans t9) rfl ?_
      have rm7 : (f < c ∨ f = 0) ∧ zRmn I c (t - l - 1).toNat (I 12 f.toNat) := by have h9 := hrm; rw [show (t - l).toNat = (t - l - 1).toNat + 1 by omega] at h9; exact h9
      have nx7 := zPl_nx hpl hn0 hall rm7.1
      have pl7 := zPl_s nx7
      unfold zNx at nx7
      have ev7 : v6 = I 12 f.toNat := by rw [← hqi 12 _ (by unfold zIk; omega)]; assumption
      rw [← ev7] at nx7 pl7 rm7
      refine c_Composer_makeLine (c := c) (un := un) (by omega) (fun a h1 h2 => ((htn : zTn n _ _) a (by omega)).trans (hC a h1 h2)) (by omega) (by omega) (by omega) (by omega) ((hqp 9 6 (by unfold zIj; omega)).trans hrd) ((hqp 9 7 (by unfold zIj; omega)).trans hcf) ((htn _ (by omega)).trans tfo) (by omega) fo9 ((hqp 5 4 (by unfold zIj; omega)).trans hrf) ((hqi 5 3 (by unfold zIk; omega)).trans hc5) (fun i hi => zTw_q (htk i hi) (hqi 6 _ (by unfold zIk; omega)) (hqi 7 _ (by unfold zIk; omega)) (hqi 8 _ (by unfold zIk; omega))) (by omega) (by rw [hqi 6 _ (by unfold zIk; omega)]; exact nx7.2.2) (fun n7 s7 T7 I7 P7 G7 a7 b7 c7 d7 t7 h7 => ?_)
      show zB _ _ _ _ _ _ [_, _, _] _ _
      refine z_aast (pc2 := 75) rfl rfl ((a7 _ (by omega)).trans ((htn _ (by omega)).trans t10)) rfl (by omega) (by omega) (by omega) (fun b hb => by cases hb; rw [t7]; exact ⟨_, rfl, rfl⟩) (Or.inr ⟨_, rfl, by omega, t7⟩) ?_
      refine z_aload_n (pc2 := 76) rfl rfl rfl ?_
      refine z_dup (pc2 := 77) rfl rfl rfl ?_
      refine z_getI (pc2 := 80) 0 rfl rfl rfl rfl rfl ((a7 _ (by omega)).trans ((htn _ (by omega)).trans t9)) ?_
      intro v8 e8 r8 k8
      replace k8 : (0 : Int) ≤ v8 ∧ v8 ≤ 40 := k8
      replace e8 : l = v8 := by rw [e8]; first | exact ((c7 9 1 (by unfold zIl; omega)).trans hl1) | exact Eq.symm ((c7 9 1 (by unfold zIl; omega)).trans hl1) | (simp [zU]; first | done | exact ((c7 9 1 (by unfold zIl; omega)).trans hl1) | exact Eq.symm ((c7 9 1 (by unfold zIl; omega)).trans hl1) | omega) | (refine Eq.trans (congrArg _ ?_) (Eq.symm ((c7 9 1 (by unfold zIl; omega)).trans hl1)); omega)
      subst e8
      refine z_iconst (pc2 := 81) rfl rfl ?_
      refine z_iadd (pc2 := 82) rfl rfl ?_
      refine z_putI (pc2 := 85) rfl rfl rfl rfl rfl rfl ((a7 _ (by omega)).trans ((htn _ (by omega)).trans t9)) (by omega) (by show (0 : Int) ≤ _ ∧ _ ≤ 40; omega) ?_
      refine z_aload_n (pc2 := 86) rfl rfl rfl ?_
      refine z_getP (pc2 := 89) rfl rfl rfl rfl ((a7 _ (by omega)).trans ((htn _ (by omega)).trans t9)) ?_
      intro p9 p9e p9k
      replace p9k : p9 = some 12 := p9k; clear p9e; subst p9k
      refine z_iload (pc2 := 91) rfl rfl rfl ?_
      refine z_iald (pc2 := 92) rfl rfl ((a7 _ (by omega)).trans ((htn _ (by omega)).trans t12)) (by omega) (by omega) (by omega) ?_
      intro v10 e10 r10 k10
      replace k10 : (0 : Int) ≤ v10 ∧ v10 ≤ 40 := k10
      replace e10 : v6 = v10 := by rw [e10]; first | exact ((c7 12 _ (by unfold zIl; omega)).trans (Eq.symm (by assumption))) | exact Eq.symm ((c7 12 _ (by unfold zIl; omega)).trans (Eq.symm (by assumption))) | (simp [zU]; first | done | exact ((c7 12 _ (by unfold zIl; omega)).trans (Eq.symm (by assumption))) | exact Eq.symm ((c7 12 _ (by unfold zIl; omega)).trans (Eq.symm (by assumption))) | omega) | (refine Eq.trans (congrArg _ ?_) (Eq.symm ((c7 12 _ (by unfold zIl; omega)).trans (Eq.symm (by assumption)))); omega)
      subst e10
      refine z_istore (lv2 := [(5, _), (0, _), (2, _), (4, _)]) (pc2 := 94) rfl rfl rfl rfl ?_
      refine z_goto (pc2 := 41) rfl rfl ?_
      refine z_lv (lv2 := [(0, _), (2, _), (4, _), (5, _)]) ⟨rfl, rfl, rfl, rfl, trivial⟩ ?_
      exact ih _ _ _ _ _ _ _ _ (zU_same _ _ _ _) (by omega) (by omega) (by omega) (zTn_t (m := n2) htn a7 (by omega)) (zTm_tr htm b7) (zQs_u (zQs_t hqi (fun a k ha => c7 a k (by unfold zIk at ha; unfold zIl; omega))) (by unfold zIk; omega)) (zPs_v (zPs_t hqp (fun a k ha => d7 a k (by unfold zIj at ha; unfold zIn; omega))) (by unfold zIj; omega)) (zPre10_s hpre (fun j => d7 10 j (by unfold zIn; omega))) (by omega) pl7 (by rw [show (t - (l + 1)).toNat = (t - l - 1).toNat by omega]; exact rm7.2) (by omega)
set_option maxHeartbeats 8000000 in
theorem c_Composer_compose {L : Nat} {xs : Nat → Int32} {n sl : Nat} {T : Nat → zT} {I : Nat → Nat → Int} {P : Nat → Nat → Option Nat} {G : Nat → Nat → Int} {K : List zV → zH → Prop} {p h c un : Int} {fo : Nat} (hn : 90 ≤ n) (hC : ∀ a, 1 ≤ a → a ≤ 55 → T a = zFixC a) (hc : 0 ≤ c ∧ c ≤ 40) (hun : 0 ≤ un ∧ un ≤ 24) (hrf : P 5 4 = some fo) (tfo : T fo = (1, 3, [un])) (fol : fo ≤ n) (fo9 : 91 ≤ fo) (hc5 : I 5 3 = c) (htk : zTkn un c I) (hK : ∀ n2 s2 T2 I2 P2 G2, zTn n T T2 → zTm T T2 → zQs (fun a k => a ≤ n ∧ a ≠ 9 ∧ a ≠ 11 ∧ a ≠ 12 ∧ k = k) I I2 → zPs2 (fun a k => a ≤ n ∧ a ≠ 9 ∧ a ≠ 10 ∧ k = k) P P2 → (0 ≤ I2 9 1 ∧ I2 9 1 ≤ 40) → (∀ j : Nat, (j : Int) < I2 9 1 → ∃ q, P2 10 j = some q) → (n ≤ n2 ∧ n2 ≤ n + 280 ∧ s2 ≤ sl + 4800) → K [] (n2, s2, T2, I2, P2, G2)) : zX zMd L xs 1 [.inr (.inl (some 9)), .inr (.inl (some 5)), .inl p, .inl h] (n, sl, T, I, P, G) K := by
  have t4 : T 4 = (2, 0, [60, 0]) := hC 4 (by decide) (by decide)
  have t5 : T 5 = (1, 7, [1]) := hC 5 (by decide) (by decide)
  have t9 : T 9 = (1, 0, [1]) := hC 9 (by decide) (by decide)
  refine z_inl ?_
  refine z_lv (lv2 := [(0, _), (1, _), (2, _), (3, _)]) ⟨rfl, rfl, rfl, rfl, trivial⟩ ?_
  refine z_aload_n (pc2 := 1) rfl rfl rfl ?_
  refine z_aload_n (pc2 := 2) rfl rfl rfl ?_
  refine z_putP (pc2 := 5) rfl rfl rfl rfl (by first | exact z_fitO _ _ | exact z_fitA _ _) rfl t9 (Or.inr rfl) ?_
  refine z_aload_n (pc2 := 6) rfl rfl rfl ?_
  refine z_iload_n (pc2 := 7) rfl rfl rfl ?_
  refine z_putI_any (pc2 := 10) rfl rfl rfl rfl rfl rfl t9 (fun _ _ => True.intro) (fun u1 u1r => ?_)
  refine z_aload_n (pc2 := 11) rfl rfl rfl ?_
  refine z_aload_n (pc2 := 12) rfl rfl rfl ?_
  refine z_getP (pc2 := 15) rfl rfl rfl rfl t5 ?_
  intro p2 p2e p2k
  clear p2k; replace p2e : p2 = some fo := by rw [p2e]; first | exact hrf | exact Eq.symm hrf | (simp [zU]; first | done | exact hrf | exact Eq.symm hrf | omega) | (refine Eq.trans (congrArg _ ?_) (Eq.symm hrf); omega)
  subst p2e
  refine z_putP (pc2 := 18) rfl rfl rfl rfl (by first | exact z_fitO _ _ | exact z_fitA _ _) rfl t9 (Or.inr ⟨_, rfl, by omega, _, tfo, by omega⟩) ?_
  refine z_aload_n (pc2 := 19) rfl rfl rfl ?_
  refine z_callV (y2 := 3) (as := []) (rest := []) (pc2 := 22) rfl rfl rfl rfl t9 rfl ?_
  refine c_Composer_chooseBreaks (c := c) (un := un) hn hC (by omega) (by omega) (by simp [zU]) (by simp [zU]) tfo fol fo9 (by rw [zU_row _ _ _ (by decide)]; exact hc5) (fun i hi => by rw [zU_row _ _ _ (by decide), zU_row _ _ _ (by decide), zU_row _ _ _ (by decide)]; exact htk i hi) (fun I3 q3 x3 y3 => ?_)
  show zB _ _ _ _ _ _ [] _ _
  refine z_aload_n (pc2 := 23) rfl rfl rfl ?_
  refine z_callV (y2 := 6) (as := []) (rest := []) (pc2 := 26) rfl rfl rfl rfl t9 rfl ?_
  refine c_Composer_countLines (c := c) hn hC (by omega) (by simp [zU]) ((q3 5 3 (by omega) (by omega) (by omega)).trans (by rw [zU_row _ _ _ (by decide)]; exact hc5)) x3 y3 (fun t4 r4 z4 => ?_)
  show zB _ _ _ _ _ _ [_] _ _
  refine z_istore (lv2 := [(4, _), (0, _), (1, _), (2, _), (3, _)]) (pc2 := 28) rfl rfl rfl rfl ?_
  refine z_aload_n (pc2 := 29) rfl rfl rfl ?_
  refine z_iconst (pc2 := 30) rfl rfl ?_
  refine z_putI (pc2 := 33) rfl rfl rfl rfl rfl rfl t9 (by omega) (by show (0 : Int) ≤ _ ∧ _ ≤ 40; omega) ?_
  refine z_aload_n (pc2 := 34) rfl rfl rfl ?_
  refine z_iconst (pc2 := 35) rfl rfl ?_
  refine z_putI (pc2 := 38) rfl rfl rfl rfl rfl rfl t9 (by omega) True.intro ?_
  refine z_iconst (pc2 := 39) rfl rfl ?_
  refine z_istore (lv2 := [(5, _), (4, _), (0, _), (1, _), (2, _), (3, _)]) (pc2 := 41) rfl rfl rfl rfl ?_
  have hb3 : ∀ a k, a ≠ 9 → a ≠ 11 → a ≠ 12 → I3 a k = I a k := fun a k h1 h2 h3 => (q3 a k (by omega) h2 h3).trans (by rw [zU_row _ _ _ h1])
  refine z_lv (lv2 := [(0, _), (2, _), (4, _), (5, _)]) ⟨rfl, rfl, rfl, rfl, trivial⟩ ?_
  exact cl_Composer_compose (c := c) (un := un) hn hC (by omega) (by omega) (by omega) (by simp [zU]) (by simp [zU]) tfo fol fo9 (by simp [zU]; exact hrf) (by rw [zU_row _ _ _ (by decide), zU_row _ _ _ (by decide), hb3 5 3 (by omega) (by omega) (by omega)]; exact hc5) (fun i hi => by rw [zU_row _ _ _ (by decide), zU_row _ _ _ (by decide), zU_row _ _ _ (by decide), zU_row _ _ _ (by decide), zU_row _ _ _ (by decide), zU_row _ _ _ (by decide), hb3 6 _ (by omega) (by omega) (by omega), hb3 7 _ (by omega) (by omega) (by omega), hb3 8 _ (by omega) (by omega) (by omega)]; exact htk i hi) (zNx_eq x3 (by rw [zU_row _ _ _ (by decide), zU_row _ _ _ (by decide)]) (fun j => by rw [zU_row _ _ _ (by decide), zU_row _ _ _ (by decide)])) (zAllN_q y3 (fun j => by rw [zU_row _ _ _ (by decide), zU_row _ _ _ (by decide)]) (fun j => by rw [zU_row _ _ _ (by decide), zU_row _ _ _ (by decide)])) (fun n9 s9 T9 I9 P9 G9 h1 h2 h3 h4 h5 h6 h7 => hK _ _ _ _ _ _ h1 h2 (fun a k ha => by rw [h3 a k (by unfold zIk; omega), zU_row _ _ _ ha.2.1, zU_row _ _ _ ha.2.1]; exact hb3 a k ha.2.1 ha.2.2.1 ha.2.2.2.1) (fun a k ha => by rw [h4 a k (by unfold zIj; omega), zU_row _ _ _ ha.2.1, zU_row _ _ _ ha.2.1]) h5 h6 h7) _ _ _ _ _ _ _ _ 0 (by simp [zU]) (by omega) (by omega) (by omega) zTn_rf (zTm_rf _) zQs_rf zPs_rf (fun j hj => by omega) (by omega) (Or.inl rfl) (zRmn_eq (fun j => by rw [zU_row _ _ _ (by decide), zU_row _ _ _ (by decide)]) (by rw [show (t4 - 0).toNat = t4.toNat by omega]; exact z4)) (Nat.lt_succ_self _)
