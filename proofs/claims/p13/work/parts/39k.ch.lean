/-! the class: locking up -/
set_option maxHeartbeats 8000000 in
theorem cl_Floor_linesOf {L : Nat} {xs : Nat → Int32} {n sl : Nat} {T : Nat → zT} {I : Nat → Nat → Int} {P : Nat → Nat → Option Nat} {K : List zV → zH → Prop} {f w : Int} {x pg ar : Nat} (hn : 90 ≤ n) (hC : ∀ a, 1 ≤ a → a ≤ 55 → T a = zFixC a) (hf : 0 ≤ f ∧ f ≤ 89) (hw : 0 ≤ w ∧ w ≤ 89) (ix : x = 23 ∨ x = 30 ∨ x = 42 ∨ x = 49) (hpre : ∀ j : Nat, (j : Int) < f + w → ∃ q, P (x + 4) j = some q) (hfw : f + w ≤ 89) (tp : T pg = (1, 5, [f, w])) (pl : pg ≤ n) (ta : T ar = (2, 6, [w])) (al : ar ≤ n) (a9 : 91 ≤ ar) (hpa : pg ≠ ar) (hK : ∀ T2 P2 G2, (∀ b, b ≠ ar → T2 b = T b) → T2 ar = (2, 6, [w, 2]) → zTm T T2 → (∀ b j, b ≠ ar → P2 b j = P b j) → K [.inr (.inl (some ar))] (n, sl, T2, I, P2, G2)) (m : Nat) : ∀ (P2 : Nat → Nat → Option Nat) (G2 : Nat → Nat → Int), ∀ (k : Int), 0 ≤ k ∧ k ≤ 89 → zRw T ar zSL k P P2 → k ≤ w → (89 - k).toNat < m → zB zMd L xs 31 10 [(0, .inr (.inl (some x))), (1, .inr (.inl (some pg))), (2, .inr (.inl (some ar))), (3, .inl k)] [] (n, sl, T, I, P2, G2) K := by
  have t3 : T 3 = (1, 10, [1]) := hC 3 (by decide) (by decide)
  have tx := zFl_t hC ix
  induction m with
  | zero => intro P2 G2 k hk hI2 hb3 hm; omega
  | succ m ih =>
    intro P2 G2 k hk hI2 hb3 hm
    refine z_iload_n (pc2 := 11) rfl rfl rfl ?_
    refine z_aload_n (pc2 := 12) rfl rfl rfl ?_
    refine z_getI (pc2 := 15) 0 rfl rfl rfl rfl rfl tp ?_
    intro v1 e1 r1 k1
    replace k1 : w = v1 := Eq.symm k1; subst k1
    refine z_icmp_ge (t := 38) (pc2 := 18) rfl rfl rfl (by omega) (by omega) (fun c2 => ?_) (fun c2 => ?_)
    ·
      refine zB_rtR (g := 2) (gs := []) ta (fun _ => True.intro) (fun k hk => hI2.2 k (by omega)) (fun T3 r3 t3 m3 => ?_)
      refine z_aload_n (pc2 := 39) rfl rfl rfl ?_
      refine z_aret rfl rfl ?_
      exact hK _ _ _ r3 t3 m3 hI2.1
    ·
      refine z_aload_n (pc2 := 19) rfl rfl rfl ?_
      refine z_iload_n (pc2 := 20) rfl rfl rfl ?_
      refine z_aload_n (pc2 := 21) rfl rfl rfl ?_
      refine z_getP (pc2 := 24) rfl rfl rfl rfl tx.1 ?_
      intro p4 p4e p4k
      replace p4k : p4 = some (x + 4) := p4k; clear p4e; subst p4k
      refine z_aload_n (pc2 := 25) rfl rfl rfl ?_
      refine z_getI (pc2 := 28) 0 rfl rfl rfl rfl rfl tp ?_
      intro v5 e5 r5 k5
      replace k5 : f = v5 := Eq.symm k5; subst k5
      refine z_iload_n (pc2 := 29) rfl rfl rfl ?_
      refine z_iadd (pc2 := 30) rfl rfl ?_
      refine z_aald (pc2 := 31) rfl rfl tx.2.2.2.2.1 rfl (by omega) (by omega) (by omega) ?_
      intro p6 p6e p6k
      rcases p6k with rfl | ⟨q7, rfl, q79, tq7⟩
      ·
        obtain ⟨q9, h9⟩ := hpre (f + k).toNat (by omega); rw [← hI2.1 _ _ (by omega), ← p6e] at h9; cases h9
      ·
        replace tq7 : _ = ((1, 4, [1]) : zT) := tq7
        refine zB_le tq7 trivial (fun q7l => ?_)
        refine z_aast (pc2 := 32) rfl rfl ta rfl (by omega) (by omega) (by omega) (fun b hb => by cases hb; rw [tq7]; exact ⟨_, rfl, rfl⟩) True.intro ?_
        refine z_iinc (lv2 := [(3, _), (0, _), (1, _), (2, _)]) (pc2 := 35) rfl rfl rfl rfl rfl ?_
        refine z_goto (pc2 := 10) rfl rfl ?_
        refine z_lv (lv2 := [(0, _), (1, _), (2, _), (3, _)]) ⟨rfl, rfl, rfl, rfl, trivial⟩ ?_
        exact ih _ _ _ (by omega) (zRw_s hI2 (by omega) ⟨_, rfl, by omega, by assumption⟩) (by omega) (by omega)
set_option maxHeartbeats 8000000 in
theorem c_Floor_linesOf {L : Nat} {xs : Nat → Int32} {n sl : Nat} {T : Nat → zT} {I : Nat → Nat → Int} {P : Nat → Nat → Option Nat} {G : Nat → Nat → Int} {K : List zV → zH → Prop} {f w : Int} {x pg : Nat} (hn : 90 ≤ n) (hC : ∀ a, 1 ≤ a → a ≤ 55 → T a = zFixC a) (hf : 0 ≤ f ∧ f ≤ 89) (hw : 0 ≤ w ∧ w ≤ 89) (ix : x = 23 ∨ x = 30 ∨ x = 42 ∨ x = 49) (hpre : ∀ j : Nat, (j : Int) < f + w → ∃ q, P (x + 4) j = some q) (hfw : f + w ≤ 89) (tp : T pg = (1, 5, [f, w])) (pl : pg ≤ n) (hK : ∀ T2 I2 P2 G2, (∀ b, b ≤ n → T2 b = T b ∧ I2 b = I b ∧ P2 b = P b) → T2 (n + 1) = (2, 6, [w, 2]) → zTm T T2 → K [.inr (.inl (some (n + 1)))] (n + 1, sl + w.toNat, T2, I2, P2, G2)) : zX zMd L xs 31 [.inr (.inl (some x)), .inr (.inl (some pg))] (n, sl, T, I, P, G) K := by
  have tx := zFl_t hC ix
  refine z_inl ?_
  refine z_lv (lv2 := [(0, _), (1, _)]) ⟨rfl, rfl, trivial⟩ ?_
  refine z_aload_n (pc2 := 1) rfl rfl rfl ?_
  refine z_getI (pc2 := 4) 0 rfl rfl rfl rfl rfl tp ?_
  intro v1 e1 r1 k1
  replace k1 : w = v1 := Eq.symm k1; subst k1
  refine z_newR (t := 6) (gs := []) (pc2 := 7) rfl rfl rfl rfl (by omega) (by omega) (fun _ _ => True.intro) (fun T2 I2 P2 G2 w2 => ?_)
  refine z_astore_n (lv2 := [(2, _), (0, _), (1, _)]) (pc2 := 8) rfl rfl rfl rfl ?_
  refine z_iconst (pc2 := 9) rfl rfl ?_
  refine z_istore_n (lv2 := [(3, _), (2, _), (0, _), (1, _)]) (pc2 := 10) rfl rfl rfl rfl ?_
  refine z_lv (lv2 := [(0, _), (1, _), (2, _), (3, _)]) ⟨rfl, rfl, rfl, rfl, trivial⟩ ?_
  exact cl_Floor_linesOf (f := f) (by omega) (fun a h1 h2 => (((zTn_n zTn_rf w2 (by omega)) : zTn n _ _) a (by omega)).trans (hC a h1 h2)) (by omega) (by omega) ix (fun j hj => by rw [(w2.1 _ (by omega)).2.2.1]; exact hpre j hj) hfw ((w2.1 _ (by omega)).1.trans tp) (by omega) w2.2.1 (by omega) (by omega) (by omega) (fun T9 P9 G9 h1 h2 h3 h4 => hK _ _ _ _ (fun b hb => ⟨(h1 b (by omega)).trans (w2.1 b (by omega)).1, (w2.1 b (by omega)).2.1, by funext j; rw [h4 b j (by omega), (w2.1 b (by omega)).2.2.1]⟩) h2 (zTm_tr (zTk_m w2.2.2.2.2) h3)) _ _ _ _ (by omega) zRw_0 (by omega) (Nat.lt_succ_self _)
set_option maxHeartbeats 8000000 in
theorem cl_Floor_lockPages {L : Nat} {xs : Nat → Int32} {n sl : Nat} {T : Nat → zT} {I : Nat → Nat → Int} {P : Nat → Nat → Option Nat} {K : List zV → zH → Prop} {a u F : Int} {x : Nat} (hn : 90 ≤ n) (hC : ∀ a, 1 ≤ a → a ≤ 55 → T a = zFixC a) (hu : 0 ≤ u ∧ u ≤ 12) (hF : 0 ≤ F ∧ F ≤ 12) (ix : x = 23 ∨ x = 30 ∨ x = 42 ∨ x = 49) (hfl : zFlr T I P x) (hu : I x 8 = u) (hFu : F + u ≤ 12) (h689 : I x 6 ≤ 89) (hK : ∀ n2 sl2 T2 I2 P2 G2, zCP n T T2 I I2 P P2 → (n ≤ n2 ∧ n2 ≤ n + 24 ∧ sl2 ≤ sl + 1200) → K [] (n2, sl2, T2, I2, P2, G2)) (m : Nat) : ∀ (n2 sl2 : Nat) (T2 : Nat → zT) (I2 : Nat → Nat → Int) (P2 : Nat → Nat → Option Nat) (G2 : Nat → Nat → Int), ∀ (k : Int), 0 ≤ k ∧ k ≤ 12 → (n ≤ n2 ∧ n2 ≤ n + 2 * k.toNat ∧ sl2 ≤ sl + 100 * k.toNat) → zTn n T T2 → zTm T T2 → zQs (zIx x n) I I2 → zPs2 (zPx x n) P P2 → I2 x 10 = F + k → (∀ j : Nat, (j : Int) < F + k → ∃ q, P2 (x + 6) j = some q) → k ≤ u → (12 - k).toNat < m → zB zMd L xs 30 2 [(0, .inr (.inl (some x))), (1, .inl a), (2, .inl k)] [] (n2, sl2, T2, I2, P2, G2) K := by
  have t13 : T 13 = (2, 0, [144, 0]) := hC 13 (by decide) (by decide)
  have t15 : T 15 = (2, 1, [41, 0]) := hC 15 (by decide) (by decide)
  have tx := zFl_t hC ix
  induction m with
  | zero => intro n2 sl2 T2 I2 P2 G2 k hk hI2 htn htm hqi hqp hx10 hpx hb3 hm; omega
  | succ m ih =>
    intro n2 sl2 T2 I2 P2 G2 k hk hI2 htn htm hqi hqp hx10 hpx hb3 hm
    refine z_iload_n (pc2 := 3) rfl rfl rfl ?_
    refine z_aload_n (pc2 := 4) rfl rfl rfl ?_
    refine z_getI (pc2 := 7) 0 rfl rfl rfl rfl rfl ((htn _ (by omega)).trans tx.1) ?_
    intro v1 e1 r1 k1
    replace k1 : (0 : Int) ≤ v1 ∧ v1 ≤ 89 := k1
    replace e1 : u = v1 := by rw [e1]; first | exact ((hqi x 8 (by unfold zIx; omega)).trans hu) | exact Eq.symm ((hqi x 8 (by unfold zIx; omega)).trans hu) | (simp [zU]; first | done | exact ((hqi x 8 (by unfold zIx; omega)).trans hu) | exact Eq.symm ((hqi x 8 (by unfold zIx; omega)).trans hu) | omega)
    subst e1
    refine z_icmp_ge (t := 64) (pc2 := 10) rfl rfl rfl (by omega) (by omega) (fun c2 => ?_) (fun c2 => ?_)
    ·
      refine z_aload_n (pc2 := 65) rfl rfl rfl ?_
      refine z_iconst (pc2 := 66) rfl rfl ?_
      refine z_putI (pc2 := 69) rfl rfl rfl rfl rfl rfl ((htn _ (by omega)).trans tx.1) (by omega) (by show (0 : Int) ≤ _ ∧ _ ≤ 89; omega) ?_
      refine z_aload_n (pc2 := 70) rfl rfl rfl ?_
      refine z_iconst (pc2 := 71) rfl rfl ?_
      refine z_putI (pc2 := 74) rfl rfl rfl rfl rfl rfl ((htn _ (by omega)).trans tx.1) (by omega) (by show (0 : Int) ≤ _ ∧ _ ≤ 89; omega) ?_
      refine z_ret rfl rfl ?_
      exact hK _ _ _ _ _ _ (zCP_lk hn ix htn htm (zLp_i hqi) hqp (by simp [zU]) (by simp [zU]) (fun j hj => hpx j (by rw [← hx10]; simpa [zU] using hj))) (by omega)
    ·
      refine z_aload_n (pc2 := 11) rfl rfl rfl ?_
      refine z_getI (pc2 := 14) 0 rfl rfl rfl rfl rfl ((htn _ (by omega)).trans tx.1) ?_
      intro v3 e3 r3 k3
      replace k3 : (0 : Int) ≤ v3 ∧ v3 ≤ 12 := k3
      replace e3 : (F + k) = v3 := by rw [e3]; first | exact hx10 | exact Eq.symm hx10 | (simp [zU]; first | done | exact hx10 | exact Eq.symm hx10 | omega)
      subst e3
      refine z_bipush (pc2 := 16) rfl rfl (by decide) ?_
      refine z_icmp_ge (t := 64) (pc2 := 19) rfl rfl rfl (by omega) (by omega) (fun c4 => ?_) (fun c4 => ?_)
      ·
        refine z_aload_n (pc2 := 65) rfl rfl rfl ?_
        refine z_iconst (pc2 := 66) rfl rfl ?_
        refine z_putI (pc2 := 69) rfl rfl rfl rfl rfl rfl ((htn _ (by omega)).trans tx.1) (by omega) (by show (0 : Int) ≤ _ ∧ _ ≤ 89; omega) ?_
        refine z_aload_n (pc2 := 70) rfl rfl rfl ?_
        refine z_iconst (pc2 := 71) rfl rfl ?_
        refine z_putI (pc2 := 74) rfl rfl rfl rfl rfl rfl ((htn _ (by omega)).trans tx.1) (by omega) (by show (0 : Int) ≤ _ ∧ _ ≤ 89; omega) ?_
        refine z_ret rfl rfl ?_
        exact hK _ _ _ _ _ _ (zCP_lk hn ix htn htm (zLp_i hqi) hqp (by simp [zU]) (by simp [zU]) (fun j hj => hpx j (by rw [← hx10]; simpa [zU] using hj))) (by omega)
      ·
        refine z_aload_n (pc2 := 20) rfl rfl rfl ?_
        refine z_getP (pc2 := 23) rfl rfl rfl rfl ((htn _ (by omega)).trans tx.1) ?_
        intro p5 p5e p5k
        replace p5k : p5 = some (x + 6) := p5k; clear p5e; subst p5k
        refine z_aload_n (pc2 := 24) rfl rfl rfl ?_
        refine z_getI (pc2 := 27) 0 rfl rfl rfl rfl rfl ((htn _ (by omega)).trans tx.1) ?_
        intro v6 e6 r6 k6
        replace k6 : (0 : Int) ≤ v6 ∧ v6 ≤ 12 := k6
        replace e6 : (F + k) = v6 := by rw [e6]; first | exact hx10 | exact Eq.symm hx10 | (simp [zU]; first | done | exact hx10 | exact Eq.symm hx10 | omega)
        subst e6
        refine z_new (c := 2) (s := 2) (pc2 := 30) rfl rfl rfl rfl (fun _ => True.intro) (fun T7 I7 P7 G7 w7 => ?_)
        refine z_dup (pc2 := 31) rfl rfl rfl ?_
        refine z_iload_n (pc2 := 32) rfl rfl rfl ?_
        refine z_iload_n (pc2 := 33) rfl rfl rfl ?_
        refine z_iadd (pc2 := 34) rfl rfl ?_
        refine z_aload_n (pc2 := 35) rfl rfl rfl ?_
        refine z_aload_n (pc2 := 36) rfl rfl rfl ?_
        refine z_getP (pc2 := 39) rfl rfl rfl rfl ((w7.1 _ (by omega)).1.trans ((htn _ (by omega)).trans tx.1)) ?_
        intro p8 p8e p8k
        replace p8k : p8 = some (x + 5) := p8k; clear p8e; subst p8k
        refine z_iload_n (pc2 := 40) rfl rfl rfl ?_
        refine z_aald (pc2 := 41) rfl rfl ((w7.1 _ (by omega)).1.trans ((htn _ (by omega)).trans tx.2.2.2.2.2.1)) rfl (by omega) (by omega) (by omega) ?_
        intro p9 p9e p9k
        rcases p9k with rfl | ⟨q10, rfl, q109, f11, l12, tq10⟩
        ·
          obtain ⟨q9, f9, l9, h9, -⟩ := hfl.2.1 (k).toNat (by omega); rw [← hqp _ _ (by unfold zPx; omega), ← (w7.1 _ (by omega)).2.2.1, ← p9e] at h9; cases h9
        ·
          replace tq10 : _ = ((1, 5, [f11, l12]) : zT) := tq10
          refine zB_le tq10 trivial (fun q10l => ?_)
          refine z_callV (y2 := 31) (as := [_]) (rest := [_, _, _, _, _]) (pc2 := 44) rfl rfl rfl rfl ((w7.1 _ (by omega)).1.trans ((htn _ (by omega)).trans tx.1)) rfl ?_
          have pb13 := zPage_b hfl (j := k.toNat) (by omega) (by assumption) (by rw [(w7.1 _ (by omega)).2.2.1]; exact hqp _ _ (by unfold zPx; omega)) (zTm_tr htm (zTk_m w7.2.2.2.2)) tq10
          refine c_Floor_linesOf (f := f11) (w := l12) (by omega) (fun a h1 h2 => (((zTn_n htn w7 (by omega)) : zTn n _ _) a (by omega)).trans (hC a h1 h2)) (by omega) (by omega) (by omega) (fun j hj => by rw [(w7.1 _ (by omega)).2.2.1, hqp _ _ (by unfold zPx; omega)]; exact hfl.1 j (by omega)) (by omega) tq10 (by omega) (fun T13 I13 P13 G13 f13 t13 m13 => ?_)
          show zB _ _ _ _ _ _ [_, _, _, _, _, _] _ _
          refine z_callP (y2 := 34) (as := [_, _]) (rest := [_, _, _]) (pc2 := 47) rfl rfl rfl rfl ?_
          refine z_inl ?_
          refine z_lv (lv2 := [(0, _), (1, _), (2, _)]) ⟨rfl, rfl, rfl, trivial⟩ ?_
          refine z_aload_n (pc2 := 1) rfl rfl rfl ?_
          refine z_obj (pc2 := 4) rfl rfl rfl rfl ?_
          refine z_aload_n (pc2 := 5) rfl rfl rfl ?_
          refine z_iload_n (pc2 := 6) rfl rfl rfl ?_
          refine z_putI_any (pc2 := 9) rfl rfl rfl rfl rfl rfl ((f13 _ (by omega)).1.trans w7.2.1) (fun _ _ => True.intro) (fun u14 u14r => ?_)
          refine z_aload_n (pc2 := 10) rfl rfl rfl ?_
          refine z_aload_n (pc2 := 11) rfl rfl rfl ?_
          refine z_putP (pc2 := 14) rfl rfl rfl rfl (by first | exact z_fitO _ _ | exact z_fitA _ _) rfl ((f13 _ (by omega)).1.trans w7.2.1) True.intro ?_
          refine z_ret rfl rfl ?_
          show zB _ _ _ _ _ _ [_, _, _] _ _
          refine zB_rtO (g := 1) (gs := []) ((f13 _ (by omega)).1.trans w7.2.1) zForme_I (zForme_P (q := ((n2 + 1) + 1)) (by simp [zU]) (by omega) t13 (by omega)) (fun T15 r15 t15 m15 => ?_)
          refine z_aast (pc2 := 48) rfl rfl ((r15 _ (by omega)).trans ((f13 _ (by omega)).1.trans ((w7.1 _ (by omega)).1.trans ((htn _ (by omega)).trans tx.2.2.2.2.2.2)))) rfl (by omega) (by omega) (by omega) (fun b hb => by cases hb; rw [t15]; exact ⟨_, rfl, rfl⟩) (Or.inr ⟨_, rfl, by omega, t15⟩) ?_
          refine z_aload_n (pc2 := 49) rfl rfl rfl ?_
          refine z_dup (pc2 := 50) rfl rfl rfl ?_
          have x10 : ∀ P9 : Int, zU (I13) (n2 + 1) 0 P9 x 10 = F + k := fun P9 => by rw [zU_row _ _ _ (by omega), (f13 _ (by omega)).2.1, (w7.1 _ (by omega)).2.1]; exact hx10
          refine z_getI (pc2 := 53) 0 rfl rfl rfl rfl rfl ((r15 _ (by omega)).trans ((f13 _ (by omega)).1.trans ((w7.1 _ (by omega)).1.trans ((htn _ (by omega)).trans tx.1)))) ?_
          intro v16 e16 r16 k16
          replace k16 : (0 : Int) ≤ v16 ∧ v16 ≤ 12 := k16
          replace e16 : (F + k) = v16 := by rw [e16]; first | exact (x10 _) | exact Eq.symm (x10 _) | (simp [zU]; first | done | exact (x10 _) | exact Eq.symm (x10 _) | omega)
          subst e16
          refine z_iconst (pc2 := 54) rfl rfl ?_
          refine z_iadd (pc2 := 55) rfl rfl ?_
          refine z_putI (pc2 := 58) rfl rfl rfl rfl rfl rfl ((r15 _ (by omega)).trans ((f13 _ (by omega)).1.trans ((w7.1 _ (by omega)).1.trans ((htn _ (by omega)).trans tx.1)))) (by omega) (by show (0 : Int) ≤ _ ∧ _ ≤ 12; omega) ?_
          refine z_iinc (lv2 := [(2, _), (0, _), (1, _)]) (pc2 := 61) rfl rfl rfl rfl rfl ?_
          refine z_goto (pc2 := 2) rfl rfl ?_
          refine z_lv (lv2 := [(0, _), (1, _), (2, _)]) ⟨rfl, rfl, rfl, trivial⟩ ?_
          exact ih _ _ _ _ _ _ _ (by omega) (by omega) (zTn_r (zTn_t (m := (n2 + 1)) (zTn_n htn w7 (by omega)) (fun b hb => (f13 b hb).1) (by omega)) r15 (by omega)) (zTm_tr (zTm_tr (zTm_tr htm (zTk_m w7.2.2.2.2)) m13) m15) (zQs_u (zQs_u (zQs_t (zQs_n hqi w7 (fun _ => by unfold zIx; omega)) (fun a k ha => congrFun (f13 a (by unfold zIx at ha; omega)).2.1 k)) (by unfold zIx; omega)) (by unfold zIx; omega)) (zPs_v (zPs_v (zPs_t (zPs_n hqp w7 (fun _ => by unfold zPx; omega)) (fun a k ha => congrFun (f13 a (by unfold zPx at ha; omega)).2.2 k)) (by unfold zPx; omega)) (by unfold zPx; omega)) (by simp [zU]; omega) (fun j hj => zPre_s (k := F + k) hpx (by omega) (fun j => by rw [zU_row _ _ _ (by omega), (f13 _ (by omega)).2.2, (w7.1 _ (by omega)).2.2.1]) j (by omega)) (by omega) (by omega)
set_option maxHeartbeats 8000000 in
theorem c_Floor_lockPages {L : Nat} {xs : Nat → Int32} {n sl : Nat} {T : Nat → zT} {I : Nat → Nat → Int} {P : Nat → Nat → Option Nat} {G : Nat → Nat → Int} {K : List zV → zH → Prop} {a : Int} {x : Nat} (hn : 90 ≤ n) (hC : ∀ a, 1 ≤ a → a ≤ 55 → T a = zFixC a) (ix : x = 23 ∨ x = 30 ∨ x = 42 ∨ x = 49) (hfl : zFlr T I P x) (hFu : I x 10 + I x 8 ≤ 12) (hK : ∀ n2 sl2 T2 I2 P2 G2, zCP n T T2 I I2 P P2 → (n ≤ n2 ∧ n2 ≤ n + 24 ∧ sl2 ≤ sl + 1200) → K [] (n2, sl2, T2, I2, P2, G2)) : zX zMd L xs 30 [.inr (.inl (some x)), .inl a] (n, sl, T, I, P, G) K := by
  have tx := zFl_t hC ix
  refine zX_wf2 (fun hw => ?_)
  have b10 : 0 ≤ I x 10 ∧ I x 10 ≤ 12 := by have h1 := hw.2.1 x 10; rw [show (n, sl, T, I, P, G).2.2.1 x = T x from rfl, tx.1] at h1; exact h1
  have b8 : 0 ≤ I x 8 ∧ I x 8 ≤ 89 := by have h1 := hw.2.1 x 8; rw [show (n, sl, T, I, P, G).2.2.1 x = T x from rfl, tx.1] at h1; exact h1
  have b6 : 0 ≤ I x 6 ∧ I x 6 ≤ 89 := by have h1 := hw.2.1 x 6; rw [show (n, sl, T, I, P, G).2.2.1 x = T x from rfl, tx.1] at h1; exact h1
  have tx := zFl_t hC ix
  refine z_inl ?_
  refine z_lv (lv2 := [(0, _), (1, _)]) ⟨rfl, rfl, trivial⟩ ?_
  refine z_iconst (pc2 := 1) rfl rfl ?_
  refine z_istore_n (lv2 := [(2, _), (0, _), (1, _)]) (pc2 := 2) rfl rfl rfl rfl ?_
  refine z_lv (lv2 := [(0, _), (1, _), (2, _)]) ⟨rfl, rfl, rfl, trivial⟩ ?_
  exact cl_Floor_lockPages hn hC (u := I x 8) (F := I x 10) (by omega) (by omega) ix hfl rfl (by omega) b6.2 hK _ _ _ _ _ _ _ _ (by omega)  (by omega) zTn_rf (zTm_rf _) zQs_rf zPs_rf (by omega) (fun j hj => hfl.2.2 j (by omega)) (by omega) (Nat.lt_succ_self _)
set_option maxHeartbeats 8000000 in
theorem c_TypeRoom_lock {L : Nat} {xs : Nat → Int32} {n sl : Nat} {T : Nat → zT} {I : Nat → Nat → Int} {P : Nat → Nat → Option Nat} {G : Nat → Nat → Int} {K : List zV → zH → Prop} (hn : 90 ≤ n) (hC : ∀ a, 1 ≤ a → a ≤ 55 → T a = zFixC a) (hcr : zCR T I P) (hK : ∀ e n2 sl2 T2 I2 P2 G2, zCP n T T2 I I2 P P2 → (n ≤ n2 ∧ n2 ≤ n + 24 ∧ sl2 ≤ sl + 1200) → K [.inl e] (n2, sl2, T2, I2, P2, G2)) : zX zMd L xs 133 [.inr (.inl (some 1))] (n, sl, T, I, P, G) K := by
  have t1 : T 1 = (1, 11, [1]) := hC 1 (by decide) (by decide)
  refine z_inl ?_
  refine z_lv (lv2 := [(0, _)]) ⟨rfl, trivial⟩ ?_
  refine z_aload_n (pc2 := 1) rfl rfl rfl ?_
  refine z_getP (pc2 := 4) rfl rfl rfl rfl t1 ?_
  intro p1 p1e p1k
  obtain ⟨b2, rfl, hb2⟩ := zHere p1k
  have tb2 := zRm_t hC hb2
  refine z_getP (pc2 := 7) rfl rfl rfl rfl tb2.1 ?_
  intro p3 p3e p3k
  obtain ⟨x4, rfl, hx4⟩ := zFloorOf p3k
  have ix4 : x4 = 23 ∨ x4 = 30 ∨ x4 = 42 ∨ x4 = 49 := by omega
  have tx4 := zFl_t hC ix4
  refine z_astore_n (lv2 := [(1, _), (0, _)]) (pc2 := 8) rfl rfl rfl rfl ?_
  refine z_aload_n (pc2 := 9) rfl rfl rfl ?_
  refine z_getI (pc2 := 12) 0 rfl rfl rfl rfl rfl tx4.1 ?_
  intro v5 e5 r5 k5
  replace k5 : (0 : Int) ≤ v5 ∧ v5 ≤ 89 := k5
  refine z_istore_n (lv2 := [(2, _), (1, _), (0, _)]) (pc2 := 13) rfl rfl rfl rfl ?_
  refine z_iload_n (pc2 := 14) rfl rfl rfl ?_
  refine z_if_ne (t := 24) (pc2 := 17) rfl rfl rfl (by omega) (fun c6 => ?_) (fun c6 => ?_)
  ·
    refine z_aload_n (pc2 := 25) rfl rfl rfl ?_
    refine z_getI (pc2 := 28) 0 rfl rfl rfl rfl rfl tx4.1 ?_
    intro v7 e7 r7 k7
    replace k7 : (0 : Int) ≤ v7 ∧ v7 ≤ 12 := k7
    refine z_iload_n (pc2 := 29) rfl rfl rfl ?_
    refine z_iadd (pc2 := 30) rfl rfl ?_
    refine z_bipush (pc2 := 32) rfl rfl (by decide) ?_
    refine z_icmp_gt (t := 47) (pc2 := 35) rfl rfl rfl (by omega) (by omega) (fun c8 => ?_) (fun c8 => ?_)
    ·
      refine z_aload_n (pc2 := 48) rfl rfl rfl ?_
      refine z_bipush (pc2 := 50) rfl rfl (by decide) ?_
      refine z_callV (y2 := 142) (as := [_]) (rest := []) (pc2 := 53) rfl rfl rfl rfl t1 rfl ?_
      refine z_inl ?_
      refine z_lv (lv2 := [(0, _), (1, _)]) ⟨rfl, rfl, trivial⟩ ?_
      refine z_aload_n (pc2 := 1) rfl rfl rfl ?_
      refine z_iload_n (pc2 := 2) rfl rfl rfl ?_
      refine z_putI (pc2 := 5) rfl rfl rfl rfl rfl rfl t1 (by omega) True.intro ?_
      refine z_iload_n (pc2 := 6) rfl rfl rfl ?_
      refine z_iret rfl rfl ?_
      show zB _ _ _ _ _ _ [_] _ _
      refine z_iret rfl rfl ?_
      exact hK _ _ _ _ _ _ _ (zCP_q ⟨zTn_rf, (zQi_u zQi_rf (by unfold zIr; omega)), zQp_rf⟩ (zTm_rf _)) (by omega)
    ·
      refine z_aload_n (pc2 := 36) rfl rfl rfl ?_
      refine z_getI (pc2 := 39) 0 rfl rfl rfl rfl rfl t1 ?_
      intro v9 e9 r9 k9
      clear k9
      clear e9
      refine z_iload_n (pc2 := 40) rfl rfl rfl ?_
      refine z_iadd (pc2 := 41) rfl rfl ?_
      refine z_sipush (pc2 := 44) rfl rfl (by decide) ?_
      refine z_icmp_any (t := 54) (pc2 := 47) rfl rfl rfl ?_ ?_
      ·
        refine z_aload_n (pc2 := 55) rfl rfl rfl ?_
        refine z_getP (pc2 := 58) rfl rfl rfl rfl t1 ?_
        intro p10 p10e p10k
        clear p10k; replace p10e : p10 = some b2 := by rw [p10e]; first | exact p1e | exact Eq.symm p1e | (simp [zU]; first | done | exact p1e | exact Eq.symm p1e | omega)
        subst p10e
        refine z_callV (y2 := 77) (as := []) (rest := []) (pc2 := 61) rfl rfl rfl rfl tb2.1 rfl ?_
        have c11 := hcr
        obtain ⟨z11, hz11, hd11⟩ := zCR_z c11 hb2 (Eq.symm p3e)
        have iz11 : z11 = 23 ∨ z11 = 30 ∨ z11 = 42 ∨ z11 = 49 := by omega
        refine c_Room_keep hn hC hb2 ix4 iz11 (by omega) (c11.2.2 _ ix4) (Eq.symm p3e) hz11 (fun I11 P11 G11 k11 f11 => ?_)
        show zB _ _ _ _ _ _ [] _ _
        refine z_aload_n (pc2 := 62) rfl rfl rfl ?_
        refine z_aload_n (pc2 := 63) rfl rfl rfl ?_
        refine z_getI (pc2 := 66) 0 rfl rfl rfl rfl rfl t1 ?_
        intro v12 e12 r12 k12
        clear k12
        clear e12
        refine z_iconst (pc2 := 67) rfl rfl ?_
        refine z_iadd (pc2 := 68) rfl rfl ?_
        refine z_callV (y2 := 30) (as := [_]) (rest := []) (pc2 := 71) rfl rfl rfl rfl tx4.1 rfl ?_
        refine c_Floor_lockPages hn hC ix4 (zFlr_k2 (hcr.2.2 _ ix4) ix4 iz11 hb2 (by omega) k11) (by rw [k11.1 x4 10 (by omega) (by omega) (by omega) (by omega), k11.1 x4 8 (by omega) (by omega) (by omega) (by omega)]; omega) (fun n13 s13 T13 I13 P13 G13 f13 b13 => ?_)
        show zB _ _ _ _ _ _ [] _ _
        refine z_aload_n (pc2 := 72) rfl rfl rfl ?_
        refine z_dup (pc2 := 73) rfl rfl rfl ?_
        refine z_getI (pc2 := 76) 0 rfl rfl rfl rfl rfl ((f13.1 _ (by omega)).trans t1) ?_
        intro v14 e14 r14 k14
        clear k14
        clear e14
        refine z_iload_n (pc2 := 77) rfl rfl rfl ?_
        refine z_iadd (pc2 := 78) rfl rfl ?_
        refine z_putI_any (pc2 := 81) rfl rfl rfl rfl rfl rfl ((f13.1 _ (by omega)).trans t1) (fun _ _ => True.intro) (fun u15 u15r => ?_)
        refine z_aload_n (pc2 := 82) rfl rfl rfl ?_
        refine z_aload_n (pc2 := 83) rfl rfl rfl ?_
        refine z_getI (pc2 := 86) 0 rfl rfl rfl rfl rfl ((f13.1 _ (by omega)).trans t1) ?_
        intro v16 e16 r16 k16
        clear k16
        clear e16
        refine z_iload_n (pc2 := 87) rfl rfl rfl ?_
        refine z_isub (pc2 := 88) rfl rfl ?_
        refine z_iconst (pc2 := 89) rfl rfl ?_
        refine z_iadd (pc2 := 90) rfl rfl ?_
        refine z_callV (y2 := 144) (as := [_]) (rest := []) (pc2 := 93) rfl rfl rfl rfl ((f13.1 _ (by omega)).trans t1) rfl ?_
        refine z_inl ?_
        refine z_lv (lv2 := [(0, _), (1, _)]) ⟨rfl, rfl, trivial⟩ ?_
        refine z_aload_n (pc2 := 1) rfl rfl rfl ?_
        refine z_iconst (pc2 := 2) rfl rfl ?_
        refine z_putI (pc2 := 5) rfl rfl rfl rfl rfl rfl ((f13.1 _ (by omega)).trans t1) (by omega) True.intro ?_
        refine z_iload_n (pc2 := 6) rfl rfl rfl ?_
        refine z_iret rfl rfl ?_
        show zB _ _ _ _ _ _ [_] _ _
        refine z_iret rfl rfl ?_
        exact hK _ _ _ _ _ _ _ (zCP_tr (m := n13) (zCP_tr (m := n) (zCP_tr (m := n) (zCP_keep2 (n := n) iz11 hb2 k11 f11) (zCP_q ⟨zTn_rf, zQi_rf, zQp_rf⟩ (zTm_rf _)) (by omega)) f13 (by omega)) (zCP_q ⟨zTn_rf, (zQi_u (zQi_u zQi_rf (by unfold zIr; omega)) (by unfold zIr; omega)), zQp_rf⟩ (zTm_rf _)) (by omega)) (by omega)
      ·
        refine z_aload_n (pc2 := 48) rfl rfl rfl ?_
        refine z_bipush (pc2 := 50) rfl rfl (by decide) ?_
        refine z_callV (y2 := 142) (as := [_]) (rest := []) (pc2 := 53) rfl rfl rfl rfl t1 rfl ?_
        refine z_inl ?_
        refine z_lv (lv2 := [(0, _), (1, _)]) ⟨rfl, rfl, trivial⟩ ?_
        refine z_aload_n (pc2 := 1) rfl rfl rfl ?_
        refine z_iload_n (pc2 := 2) rfl rfl rfl ?_
        refine z_putI (pc2 := 5) rfl rfl rfl rfl rfl rfl t1 (by omega) True.intro ?_
        refine z_iload_n (pc2 := 6) rfl rfl rfl ?_
        refine z_iret rfl rfl ?_
        show zB _ _ _ _ _ _ [_] _ _
        refine z_iret rfl rfl ?_
        exact hK _ _ _ _ _ _ _ (zCP_q ⟨zTn_rf, (zQi_u zQi_rf (by unfold zIr; omega)), zQp_rf⟩ (zTm_rf _)) (by omega)
  ·
    refine z_aload_n (pc2 := 18) rfl rfl rfl ?_
    refine z_bipush (pc2 := 20) rfl rfl (by decide) ?_
    refine z_callV (y2 := 142) (as := [_]) (rest := []) (pc2 := 23) rfl rfl rfl rfl t1 rfl ?_
    refine z_inl ?_
    refine z_lv (lv2 := [(0, _), (1, _)]) ⟨rfl, rfl, trivial⟩ ?_
    refine z_aload_n (pc2 := 1) rfl rfl rfl ?_
    refine z_iload_n (pc2 := 2) rfl rfl rfl ?_
    refine z_putI (pc2 := 5) rfl rfl rfl rfl rfl rfl t1 (by omega) True.intro ?_
    refine z_iload_n (pc2 := 6) rfl rfl rfl ?_
    refine z_iret rfl rfl ?_
    show zB _ _ _ _ _ _ [_] _ _
    refine z_iret rfl rfl ?_
    exact hK _ _ _ _ _ _ _ (zCP_q ⟨zTn_rf, (zQi_u zQi_rf (by unfold zIr; omega)), zQp_rf⟩ (zTm_rf _)) (by omega)
