/-! the class: a row of sorts is made -/
set_option maxHeartbeats 8000000 in
theorem cl_Composer_makeSorts {L : Nat} {xs : Nat → Int32} {n sl : Nat} {T : Nat → zT} {I : Nat → Nat → Int} {P : Nat → Nat → Option Nat} {K : List zV → zH → Prop} {a w c un s z : Int} {fo ar : Nat} (hn : 90 ≤ n) (hC : ∀ a, 1 ≤ a → a ≤ 55 → T a = zFixC a) (ha : 0 ≤ a ∧ a ≤ 40) (hw : 0 ≤ w ∧ w ≤ 40) (hc : 0 ≤ c ∧ c ≤ 40) (hun : 0 ≤ un ∧ un ≤ 24) (hs : 0 ≤ s ∧ s ≤ 41) (hz : 0 ≤ z ∧ z ≤ 1) (hrd : P 9 6 = some 5) (hcf : P 9 7 = some fo) (tfo : T fo = (1, 3, [un])) (fol : fo ≤ n) (fo9 : 91 ≤ fo) (hrf : P 5 4 = some fo) (hs12 : I 9 12 = s) (htk : zTkn un c I) (hawc : a ≤ w ∧ w ≤ c) (hcnt : s = zCt zOne (I 6) a.toNat (w - a).toNat + z) (hz1 : z = 1 → 1 ≤ un) (ta : T ar = (2, 9, [s])) (al : ar ≤ n) (a9 : 91 ≤ ar) (faw : fo ≠ ar) (hK : ∀ n2 s2 T2 I2 P2 G2, (∀ b, b ≤ n → b ≠ ar → T2 b = T b) → T2 ar = (2, 9, [s, 2]) → zTm T T2 → zQs (zIm n) I I2 → zPs2 (zIa ar n) P P2 → (n ≤ n2 ∧ n2 ≤ n + 3 * (w - a).toNat + 1 ∧ s2 ≤ sl + 18 * (w - a).toNat + 6) → K [.inr (.inl (some ar))] (n2, s2, T2, I2, P2, G2)) (m : Nat) : ∀ (n2 sl2 : Nat) (T2 : Nat → zT) (I2 : Nat → Nat → Int) (P2 : Nat → Nat → Option Nat) (G2 : Nat → Nat → Int), ∀ (j k : Int), 0 ≤ j ∧ j ≤ 41 → 0 ≤ k ∧ k ≤ 40 → (n ≤ n2 ∧ n2 ≤ n + 3 * (k - a).toNat ∧ sl2 ≤ sl + 18 * (k - a).toNat) → zTn n T T2 → zTm T T2 → zQs (zIm n) I I2 → zPs2 (zIa ar n) P P2 → zRq T2 P2 ar j → a ≤ k ∧ k ≤ w → j = zCt zOne (I 6) a.toNat (k - a).toNat → (40 - k).toNat < m → zB zMd L xs 18 15 [(0, .inr (.inl (some 9))), (1, .inl a), (2, .inl w), (3, .inl z), (4, .inr (.inl (some ar))), (5, .inl j), (6, .inl k)] [] (n2, sl2, T2, I2, P2, G2) K := by
  have t3 : T 3 = (1, 10, [1]) := hC 3 (by decide) (by decide)
  have t5 : T 5 = (1, 7, [1]) := hC 5 (by decide) (by decide)
  have t6 : T 6 = (2, 0, [40, 20]) := hC 6 (by decide) (by decide)
  have t7 : T 7 = (2, 0, [40, 21]) := hC 7 (by decide) (by decide)
  have t9 : T 9 = (1, 0, [1]) := hC 9 (by decide) (by decide)
  induction m with
  | zero => intro n2 sl2 T2 I2 P2 G2 j k hj hk hI2 htn htm hqi hqp hrq hb3 hs6 hm; omega
  | succ m ih =>
    intro n2 sl2 T2 I2 P2 G2 j k hj hk hI2 htn htm hqi hqp hrq hb3 hs6 hm
    refine z_iload (pc2 := 17) rfl rfl rfl ?_
    refine z_iload_n (pc2 := 18) rfl rfl rfl ?_
    refine z_icmp_ge (t := 70) (pc2 := 21) rfl rfl rfl (by omega) (by omega) (fun c1 => ?_) (fun c1 => ?_)
    ·
      have js : j = s - z := by rw [hs6, hcnt, show k = w by omega]; omega
      refine z_iload_n (pc2 := 71) rfl rfl rfl ?_
      refine z_if_eq (t := 93) (pc2 := 74) rfl rfl rfl (by omega) (fun c2 => ?_) (fun c2 => ?_)
      ·
        refine zB_rtR (g := 2) (gs := []) ((htn _ (by omega)).trans ta) (fun _ => True.intro) (fun i hi => hrq i (by omega)) (fun T3 r3 t3 m3 => ?_)
        refine z_aload (pc2 := 95) rfl rfl rfl ?_
        refine z_aret rfl rfl ?_
        exact hK _ _ _ _ _ _ (fun b h1 h2 => (r3 b h2).trans ((htn : zTn n _ _) b h1)) t3 (zTm_tr htm m3) hqi hqp (by omega)
      ·
        refine z_aload (pc2 := 76) rfl rfl rfl ?_
        refine z_iload (pc2 := 78) rfl rfl rfl ?_
        refine z_new (c := 9) (s := 6) (pc2 := 81) rfl rfl rfl rfl (fun _ => True.intro) (fun T4 I4 P4 G4 w4 => ?_)
        refine z_dup (pc2 := 82) rfl rfl rfl ?_
        refine z_iconst (pc2 := 83) rfl rfl ?_
        refine z_aload_n (pc2 := 84) rfl rfl rfl ?_
        refine z_getP (pc2 := 87) rfl rfl rfl rfl ((w4.1 _ (by omega)).1.trans ((htn _ (by omega)).trans t9)) ?_
        intro p5 p5e p5k
        clear p5k; replace p5e : p5 = some fo := by rw [p5e]; first | exact (by rw [(w4.1 9 (by omega)).2.2.1]; first | exact ((hqp 9 7 (by unfold zIa; omega)).trans hcf) | exact Eq.symm ((hqp 9 7 (by unfold zIa; omega)).trans hcf)) | exact Eq.symm (by rw [(w4.1 9 (by omega)).2.2.1]; first | exact ((hqp 9 7 (by unfold zIa; omega)).trans hcf) | exact Eq.symm ((hqp 9 7 (by unfold zIa; omega)).trans hcf)) | (simp [zU]; first | done | exact (by rw [(w4.1 9 (by omega)).2.2.1]; first | exact ((hqp 9 7 (by unfold zIa; omega)).trans hcf) | exact Eq.symm ((hqp 9 7 (by unfold zIa; omega)).trans hcf)) | exact Eq.symm (by rw [(w4.1 9 (by omega)).2.2.1]; first | exact ((hqp 9 7 (by unfold zIa; omega)).trans hcf) | exact Eq.symm ((hqp 9 7 (by unfold zIa; omega)).trans hcf)) | omega) | (refine Eq.trans (congrArg _ ?_) (Eq.symm (by rw [(w4.1 9 (by omega)).2.2.1]; first | exact ((hqp 9 7 (by unfold zIa; omega)).trans hcf) | exact Eq.symm ((hqp 9 7 (by unfold zIa; omega)).trans hcf))); omega)
        subst p5e
        refine z_iconst (pc2 := 88) rfl rfl ?_
        refine z_iconst (pc2 := 89) rfl rfl ?_
        refine z_callP (y2 := 83) (as := [_, _, _, _]) (rest := [_, _, _]) (pc2 := 92) rfl rfl rfl rfl ?_
        refine z_inl ?_
        refine z_lv (lv2 := [(0, _), (1, _), (2, _), (3, _), (4, _)]) ⟨rfl, rfl, rfl, rfl, rfl, trivial⟩ ?_
        refine z_aload_n (pc2 := 1) rfl rfl rfl ?_
        refine z_obj (pc2 := 4) rfl rfl rfl rfl ?_
        refine z_aload_n (pc2 := 5) rfl rfl rfl ?_
        refine z_iload_n (pc2 := 6) rfl rfl rfl ?_
        refine z_putI (pc2 := 9) rfl rfl rfl rfl rfl rfl w4.2.1 (by omega) True.intro ?_
        refine z_aload_n (pc2 := 10) rfl rfl rfl ?_
        refine z_aload_n (pc2 := 11) rfl rfl rfl ?_
        refine z_putP (pc2 := 14) rfl rfl rfl rfl (by first | exact z_fitO _ _ | exact z_fitA _ _) rfl w4.2.1 True.intro ?_
        refine z_aload_n (pc2 := 15) rfl rfl rfl ?_
        refine z_iload_n (pc2 := 16) rfl rfl rfl ?_
        refine z_putI (pc2 := 19) rfl rfl rfl rfl rfl rfl w4.2.1 (by omega) True.intro ?_
        refine z_aload_n (pc2 := 20) rfl rfl rfl ?_
        refine z_iload (pc2 := 22) rfl rfl rfl ?_
        refine z_putI (pc2 := 25) rfl rfl rfl rfl rfl rfl w4.2.1 (by omega) True.intro ?_
        refine z_aload_n (pc2 := 26) rfl rfl rfl ?_
        refine z_aconst_null (pc2 := 27) rfl rfl ?_
        refine z_putP (pc2 := 30) rfl rfl rfl rfl (by first | exact z_fitO _ _ | exact z_fitA _ _) rfl w4.2.1 True.intro ?_
        refine z_aload_n (pc2 := 31) rfl rfl rfl ?_
        refine z_aconst_null (pc2 := 32) rfl rfl ?_
        refine z_putP (pc2 := 35) rfl rfl rfl rfl (by first | exact z_fitO _ _ | exact z_fitA _ _) rfl w4.2.1 True.intro ?_
        refine z_ret rfl rfl ?_
        show zB _ _ _ _ _ _ [_, _, _] _ _
        refine zB_rtO (g := 1) (gs := [0, un]) w4.2.1 (zSort_I (cd := (0)) (by simp [zU]) (by simp [zU]) (by omega)) (zSort_P (q := fo) (by simp [zU]) (by omega) ((w4.1 _ (by omega)).1.trans ((htn _ (by omega)).trans tfo)) (by omega) (by simp [zU]) (by simp [zU]) (by omega)) (fun T6 r6 t6 m6 => ?_)
        refine z_aast (pc2 := 93) rfl rfl ((r6 _ (by omega)).trans ((w4.1 _ (by omega)).1.trans ((htn _ (by omega)).trans ta))) rfl (by omega) (by omega) (by omega) (fun b hb => by cases hb; rw [t6]; exact ⟨_, rfl, rfl⟩) True.intro ?_
        refine zB_rtR (g := 2) (gs := []) ((r6 _ (by omega)).trans ((w4.1 _ (by omega)).1.trans ((htn _ (by omega)).trans ta))) (fun _ => True.intro) (fun i hi => (zRq_s (zRq_m hrq (zTm_tr (zTk_m w4.2.2.2.2) m6) (fun i => by rw [zU_row _ _ _ (by omega), zU_row _ _ _ (by omega), zU_row _ _ _ (by omega), (w4.1 _ (by omega)).2.2.1])) (by omega) ⟨_, rfl, by omega, _, _, t6, by omega, by omega⟩) i (by omega)) (fun T7 r7 t7 m7 => ?_)
        refine z_aload (pc2 := 95) rfl rfl rfl ?_
        refine z_aret rfl rfl ?_
        exact hK _ _ _ _ _ _ (fun b h1 h2 => (r7 b h2).trans (((zTn_r (zTn_n htn w4 (by omega)) r6 (by omega)) : zTn n _ _) b h1)) t7 (zTm_tr (zTm_tr (zTm_tr htm (zTk_m w4.2.2.2.2)) m6) m7) (zQs_u (zQs_u (zQs_u (zQs_n hqi w4 (fun _ => by unfold zIm; omega)) (by unfold zIm; omega)) (by unfold zIm; omega)) (by unfold zIm; omega)) (zPs_v (zPs_v (zPs_v (zPs_v (zPs_n hqp w4 (fun _ => by unfold zIa; omega)) (by unfold zIa; omega)) (by unfold zIa; omega)) (by unfold zIa; omega)) (by unfold zIa; omega)) (by omega)
    ·
      refine z_aload_n (pc2 := 22) rfl rfl rfl ?_
      refine z_getP (pc2 := 25) rfl rfl rfl rfl ((htn _ (by omega)).trans t9) ?_
      intro p8 p8e p8k
      clear p8k; replace p8e : p8 = some 5 := by rw [p8e]; first | exact ((hqp 9 6 (by unfold zIa; omega)).trans hrd) | exact Eq.symm ((hqp 9 6 (by unfold zIa; omega)).trans hrd) | (simp [zU]; first | done | exact ((hqp 9 6 (by unfold zIa; omega)).trans hrd) | exact Eq.symm ((hqp 9 6 (by unfold zIa; omega)).trans hrd) | omega) | (refine Eq.trans (congrArg _ ?_) (Eq.symm ((hqp 9 6 (by unfold zIa; omega)).trans hrd)); omega)
      subst p8e
      refine z_iload (pc2 := 27) rfl rfl rfl ?_
      refine z_callV (y2 := 74) (as := [_]) (rest := []) (pc2 := 30) rfl rfl rfl rfl ((htn _ (by omega)).trans t5) rfl ?_
      refine z_inl ?_
      refine z_lv (lv2 := [(0, _), (1, _)]) ⟨rfl, rfl, trivial⟩ ?_
      refine z_aload_n (pc2 := 1) rfl rfl rfl ?_
      refine z_getP (pc2 := 4) rfl rfl rfl rfl ((htn _ (by omega)).trans t5) ?_
      intro p9 p9e p9k
      replace p9k : p9 = some 6 := p9k; clear p9e; subst p9k
      refine z_iload_n (pc2 := 5) rfl rfl rfl ?_
      refine z_iald (pc2 := 6) rfl rfl ((htn _ (by omega)).trans t6) (by omega) (by omega) (by omega) ?_
      intro v10 e10 r10 k10
      replace k10 : (0 : Int) ≤ v10 ∧ v10 ≤ 7 := k10
      refine z_bipush (pc2 := 8) rfl rfl (by decide) ?_
      refine z_icmp_eq (t := 26) (pc2 := 11) rfl rfl rfl (by omega) (by omega) (fun c11 => ?_) (fun c11 => ?_)
      ·
        refine z_iconst (pc2 := 27) rfl rfl ?_
        refine z_zret rfl rfl (by omega) ?_
        show zB _ _ _ _ _ _ [_] _ _
        refine z_if_eq (t := 64) (pc2 := 33) rfl rfl rfl (by omega) (fun c12 => ?_) (fun c12 => by exfalso; omega)
        refine z_iinc (lv2 := [(6, _), (0, _), (1, _), (2, _), (3, _), (4, _), (5, _)]) (pc2 := 67) rfl rfl rfl rfl rfl ?_
        refine z_goto (pc2 := 15) rfl rfl ?_
        refine z_lv (lv2 := [(0, _), (1, _), (2, _), (3, _), (4, _), (5, _), (6, _)]) ⟨rfl, rfl, rfl, rfl, rfl, rfl, rfl, trivial⟩ ?_
        exact ih _ _ _ _ _ _ _ _ (by omega) (by omega) (by omega) htn htm hqi hqp hrq (by omega) (by have h9 := zCt_s (f := zOne) (r := I 6) (k := k) (by omega) hs6 (show v10 = I 6 k.toNat by rw [← hqi 6 _ (by unfold zIm; omega)]; assumption); rw [zOne_0 (by omega)] at h9; rw [Int.add_zero] at h9; exact h9) (by omega)
      ·
        refine z_aload_n (pc2 := 12) rfl rfl rfl ?_
        refine z_getP (pc2 := 15) rfl rfl rfl rfl ((htn _ (by omega)).trans t5) ?_
        intro p13 p13e p13k
        replace p13k : p13 = some 6 := p13k; clear p13e; subst p13k
        refine z_iload_n (pc2 := 16) rfl rfl rfl ?_
        refine z_iald (pc2 := 17) rfl rfl ((htn _ (by omega)).trans t6) (by omega) (by omega) (by omega) ?_
        intro v14 e14 r14 k14
        replace k14 : (0 : Int) ≤ v14 ∧ v14 ≤ 7 := k14
        replace e14 : v10 = v14 := by rw [e14]; first | exact e10 | exact Eq.symm e10 | (simp [zU]; first | done | exact e10 | exact Eq.symm e10 | omega) | (refine Eq.trans (congrArg _ ?_) (Eq.symm e10); omega)
        subst e14
        refine z_bipush (pc2 := 19) rfl rfl (by decide) ?_
        refine z_icmp_eq (t := 26) (pc2 := 22) rfl rfl rfl (by omega) (by omega) (fun c15 => ?_) (fun c15 => ?_)
        ·
          refine z_iconst (pc2 := 27) rfl rfl ?_
          refine z_zret rfl rfl (by omega) ?_
          show zB _ _ _ _ _ _ [_] _ _
          refine z_if_eq (t := 64) (pc2 := 33) rfl rfl rfl (by omega) (fun c16 => ?_) (fun c16 => by exfalso; omega)
          refine z_iinc (lv2 := [(6, _), (0, _), (1, _), (2, _), (3, _), (4, _), (5, _)]) (pc2 := 67) rfl rfl rfl rfl rfl ?_
          refine z_goto (pc2 := 15) rfl rfl ?_
          refine z_lv (lv2 := [(0, _), (1, _), (2, _), (3, _), (4, _), (5, _), (6, _)]) ⟨rfl, rfl, rfl, rfl, rfl, rfl, rfl, trivial⟩ ?_
          exact ih _ _ _ _ _ _ _ _ (by omega) (by omega) (by omega) htn htm hqi hqp hrq (by omega) (by have h9 := zCt_s (f := zOne) (r := I 6) (k := k) (by omega) hs6 (show v10 = I 6 k.toNat by rw [← hqi 6 _ (by unfold zIm; omega)]; assumption); rw [zOne_0 (by omega)] at h9; rw [Int.add_zero] at h9; exact h9) (by omega)
        ·
          refine z_iconst (pc2 := 23) rfl rfl ?_
          refine z_goto (pc2 := 27) rfl rfl ?_
          refine z_zret rfl rfl (by omega) ?_
          show zB _ _ _ _ _ _ [_] _ _
          refine z_if_eq (t := 64) (pc2 := 33) rfl rfl rfl (by omega) (fun c17 => by exfalso; omega) (fun c17 => ?_)
          have lt9 := zCt_lt (f := zOne) (r := I 6) (w := w) zOne_b (by omega) hs6 (show v10 = I 6 k.toNat by rw [← hqi 6 _ (by unfold zIm; omega)]; assumption) (zOne_1 (by omega))
          refine z_aload (pc2 := 35) rfl rfl rfl ?_
          refine z_iload (pc2 := 37) rfl rfl rfl ?_
          refine z_aload_n (pc2 := 38) rfl rfl rfl ?_
          refine z_getP (pc2 := 41) rfl rfl rfl rfl ((htn _ (by omega)).trans t9) ?_
          intro p18 p18e p18k
          clear p18k; replace p18e : p18 = some 5 := by rw [p18e]; first | exact ((hqp 9 6 (by unfold zIa; omega)).trans hrd) | exact Eq.symm ((hqp 9 6 (by unfold zIa; omega)).trans hrd) | (simp [zU]; first | done | exact ((hqp 9 6 (by unfold zIa; omega)).trans hrd) | exact Eq.symm ((hqp 9 6 (by unfold zIa; omega)).trans hrd) | omega) | (refine Eq.trans (congrArg _ ?_) (Eq.symm ((hqp 9 6 (by unfold zIa; omega)).trans hrd)); omega)
          subst p18e
          refine z_iload (pc2 := 43) rfl rfl rfl ?_
          refine z_aload_n (pc2 := 44) rfl rfl rfl ?_
          refine z_aload_n (pc2 := 45) rfl rfl rfl ?_
          refine z_getP (pc2 := 48) rfl rfl rfl rfl ((htn _ (by omega)).trans t9) ?_
          intro p19 p19e p19k
          clear p19k; replace p19e : p19 = some 5 := by rw [p19e]; first | exact ((hqp 9 6 (by unfold zIa; omega)).trans hrd) | exact Eq.symm ((hqp 9 6 (by unfold zIa; omega)).trans hrd) | (simp [zU]; first | done | exact ((hqp 9 6 (by unfold zIa; omega)).trans hrd) | exact Eq.symm ((hqp 9 6 (by unfold zIa; omega)).trans hrd) | omega) | (refine Eq.trans (congrArg _ ?_) (Eq.symm ((hqp 9 6 (by unfold zIa; omega)).trans hrd)); omega)
          subst p19e
          refine z_getP (pc2 := 51) rfl rfl rfl rfl ((htn _ (by omega)).trans t5) ?_
          intro p20 p20e p20k
          replace p20k : p20 = some 6 := p20k; clear p20e; subst p20k
          refine z_iload (pc2 := 53) rfl rfl rfl ?_
          refine z_iald (pc2 := 54) rfl rfl ((htn _ (by omega)).trans t6) (by omega) (by omega) (by omega) ?_
          intro v21 e21 r21 k21
          replace k21 : (0 : Int) ≤ v21 ∧ v21 ≤ 7 := k21
          replace e21 : v10 = v21 := by rw [e21]; first | exact e10 | exact Eq.symm e10 | (simp [zU]; first | done | exact e10 | exact Eq.symm e10 | omega) | (refine Eq.trans (congrArg _ ?_) (Eq.symm e10); omega)
          subst e21
          refine z_callV (y2 := 19) (as := [_]) (rest := [_, _, _, _]) (pc2 := 57) rfl rfl rfl rfl ((htn _ (by omega)).trans t9) rfl ?_
          refine c_Composer_nextAdded (by omega) (fun a h1 h2 => ((htn : zTn n _ _) a (by omega)).trans (hC a h1 h2)) (by omega) (fun w22 I22 f22 => ?_)
          show zB _ _ _ _ _ _ [_, _, _, _, _] _ _
          refine z_callV (y2 := 75) (as := [_, _]) (rest := [_, _]) (pc2 := 60) rfl rfl rfl rfl ((htn _ (by omega)).trans t5) rfl ?_
          refine c_sortAt2 (by omega) (fun a h1 h2 => ((htn : zTn n _ _) a (by omega)).trans (hC a h1 h2)) (by omega) (by omega) ((hqp 5 4 (by unfold zIa; omega)).trans hrf) ((htn _ (by omega)).trans tfo) (by omega) fo9 (zTw_q (htk k.toNat (by omega)) ((zQs_t hqi (fun a k ha => f22 a k (by unfold zIm at ha; omega))) 6 _ (by unfold zIm; omega)) ((zQs_t hqi (fun a k ha => f22 a k (by unfold zIm at ha; omega))) 7 _ (by unfold zIm; omega)) ((zQs_t hqi (fun a k ha => f22 a k (by unfold zIm at ha; omega))) 8 _ (by unfold zIm; omega))) (by rw [f22 6 _ (by omega)]; omega) (fun n23 s23 T23 I23 P23 G23 q23 a23 b23 c23 d23 e23 f23 g23 h23 => ?_)
          obtain ⟨kd23, nn23, tq23, kb23, nb23⟩ := g23
          show zB _ _ _ _ _ _ [_, _, _] _ _
          refine z_aast (pc2 := 61) rfl rfl ((a23 _ (by omega)).trans ((htn _ (by omega)).trans ta)) rfl (by omega) (by omega) (by omega) (fun b hb => by cases hb; rw [tq23]; exact ⟨_, rfl, rfl⟩) True.intro ?_
          refine z_iinc (lv2 := [(5, _), (0, _), (1, _), (2, _), (3, _), (4, _), (6, _)]) (pc2 := 64) rfl rfl rfl rfl rfl ?_
          refine z_iinc (lv2 := [(6, _), (5, _), (0, _), (1, _), (2, _), (3, _), (4, _)]) (pc2 := 67) rfl rfl rfl rfl rfl ?_
          refine z_goto (pc2 := 15) rfl rfl ?_
          refine z_lv (lv2 := [(0, _), (1, _), (2, _), (3, _), (4, _), (5, _), (6, _)]) ⟨rfl, rfl, rfl, rfl, rfl, rfl, rfl, trivial⟩ ?_
          exact ih _ _ _ _ _ _ _ _ (by omega) (by omega) (by omega) (zTn_t (m := n2) htn a23 (by omega)) (zTm_tr htm b23) (zQs_t (zQs_t hqi (fun a k ha => f22 a k (by unfold zIm at ha; omega))) (fun a k ha => c23 a k (by unfold zIm at ha; unfold zIn; omega))) (zPs_v (zPs_t hqp (fun a k ha => d23 a k (by unfold zIa at ha; unfold zIn; omega))) (by unfold zIa; omega)) (zRq_s (zRq_m hrq b23 (fun i => d23 _ i (by unfold zIn; omega))) (by omega) ⟨_, rfl, by omega, _, _, tq23, by omega, by omega⟩) (by omega) (by have h9 := zCt_s (f := zOne) (r := I 6) (k := k) (by omega) hs6 (show v10 = I 6 k.toNat by rw [← hqi 6 _ (by unfold zIm; omega)]; assumption); rw [zOne_1 (by omega)] at h9; exact h9) (by omega)
set_option maxHeartbeats 8000000 in
theorem c_Composer_makeSorts {L : Nat} {xs : Nat → Int32} {n sl : Nat} {T : Nat → zT} {I : Nat → Nat → Int} {P : Nat → Nat → Option Nat} {G : Nat → Nat → Int} {K : List zV → zH → Prop} {a w z c un s : Int} {fo : Nat} (hn : 90 ≤ n) (hC : ∀ a, 1 ≤ a → a ≤ 55 → T a = zFixC a) (ha : 0 ≤ a ∧ a ≤ 40) (hw : 0 ≤ w ∧ w ≤ 40) (hz : 0 ≤ z ∧ z ≤ 1) (hc : 0 ≤ c ∧ c ≤ 40) (hun : 0 ≤ un ∧ un ≤ 24) (hs : 0 ≤ s ∧ s ≤ 41) (hrd : P 9 6 = some 5) (hcf : P 9 7 = some fo) (tfo : T fo = (1, 3, [un])) (fol : fo ≤ n) (fo9 : 91 ≤ fo) (hrf : P 5 4 = some fo) (hs12 : I 9 12 = s) (htk : zTkn un c I) (hawc : a ≤ w ∧ w ≤ c) (hcnt : s = zCt zOne (I 6) a.toNat (w - a).toNat + z) (hz1 : z = 1 → 1 ≤ un) (hK : ∀ n2 s2 T2 I2 P2 G2, zTn n T T2 → zTm T T2 → zQs (zIm n) I I2 → zPs2 (zIn n) P P2 → T2 (n + 1) = (2, 9, [s, 2]) → (n + 1 ≤ n2 ∧ n2 ≤ n + 2 + 3 * (w - a).toNat ∧ s2 ≤ sl + s.toNat + 18 * (w - a).toNat + 6) → K [.inr (.inl (some (n + 1)))] (n2, s2, T2, I2, P2, G2)) : zX zMd L xs 18 [.inr (.inl (some 9)), .inl a, .inl w, .inl z] (n, sl, T, I, P, G) K := by
  have t9 : T 9 = (1, 0, [1]) := hC 9 (by decide) (by decide)
  refine z_inl ?_
  refine z_lv (lv2 := [(0, _), (1, _), (2, _), (3, _)]) ⟨rfl, rfl, rfl, rfl, trivial⟩ ?_
  refine z_aload_n (pc2 := 1) rfl rfl rfl ?_
  refine z_getI (pc2 := 4) 0 rfl rfl rfl rfl rfl t9 ?_
  intro v1 e1 r1 k1
  replace k1 : (0 : Int) ≤ v1 ∧ v1 ≤ 100 := k1
  replace e1 : s = v1 := by rw [e1]; first | exact hs12 | exact Eq.symm hs12 | (simp [zU]; first | done | exact hs12 | exact Eq.symm hs12 | omega) | (refine Eq.trans (congrArg _ ?_) (Eq.symm hs12); omega)
  subst e1
  refine z_newR (t := 9) (gs := []) (pc2 := 7) rfl rfl rfl rfl (by omega) (by omega) (fun _ _ => True.intro) (fun T2 I2 P2 G2 w2 => ?_)
  refine z_astore (lv2 := [(4, _), (0, _), (1, _), (2, _), (3, _)]) (pc2 := 9) rfl rfl rfl rfl ?_
  refine z_iconst (pc2 := 10) rfl rfl ?_
  refine z_istore (lv2 := [(5, _), (4, _), (0, _), (1, _), (2, _), (3, _)]) (pc2 := 12) rfl rfl rfl rfl ?_
  refine z_iload_n (pc2 := 13) rfl rfl rfl ?_
  refine z_istore (lv2 := [(6, _), (5, _), (4, _), (0, _), (1, _), (2, _), (3, _)]) (pc2 := 15) rfl rfl rfl rfl ?_
  refine z_lv (lv2 := [(0, _), (1, _), (2, _), (3, _), (4, _), (5, _), (6, _)]) ⟨rfl, rfl, rfl, rfl, rfl, rfl, rfl, trivial⟩ ?_
  exact cl_Composer_makeSorts (n := n + 1) (sl := sl + s.toNat) (c := c) (un := un) (s := s) (by omega) (fun a h1 h2 => (((zTn_n zTn_rf w2 (by omega)) : zTn n _ _) a (by omega)).trans (hC a h1 h2)) (by omega) (by omega) (by omega) (by omega) (by omega) (by omega) (by rw [(w2.1 9 (by omega)).2.2.1]; exact hrd) (by rw [(w2.1 9 (by omega)).2.2.1]; exact hcf) ((w2.1 _ (by omega)).1.trans tfo) (by omega) fo9 (by rw [(w2.1 5 (by omega)).2.2.1]; exact hrf) (by rw [(w2.1 9 (by omega)).2.1]; exact hs12) (fun i hi => by rw [(w2.1 6 (by omega)).2.1, (w2.1 7 (by omega)).2.1, (w2.1 8 (by omega)).2.1]; exact htk i hi) hawc (by rw [(w2.1 6 (by omega)).2.1]; exact hcnt) hz1 w2.2.1 (by omega) (by omega) (by omega) (fun n9 s9 T9 I9 P9 G9 h1 h2 h3 h4 h5 h6 => hK _ _ _ _ _ _ (fun b hb => (h1 b (by omega) (by omega)).trans (w2.1 b (by omega)).1) (zTm_tr (zTk_m w2.2.2.2.2) h3) (fun b k hb => (h4 b k (by unfold zIm at hb ⊢; omega)).trans (congrFun (w2.1 b (by unfold zIm at hb; omega)).2.1 k)) (fun b k hb => (h5 b k (by unfold zIn at hb; unfold zIa; omega)).trans (congrFun (w2.1 b (by unfold zIn at hb; omega)).2.2.1 k)) h2 (by omega)) _ _ _ _ _ _ _ _ _ (by omega) (by omega) (by omega) zTn_rf (zTm_rf _) zQs_rf zPs_rf (fun i hi => by omega) (by omega) (by rw [show (a - a).toNat = 0 by omega]; rfl) (Nat.lt_succ_self _)
