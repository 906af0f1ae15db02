/-! the class: making up -/
set_option maxHeartbeats 8000000 in
theorem cl_Pager_makePages {L : Nat} {xs : Nat → Int32} {n sl : Nat} {T : Nat → zT} {I : Nat → Nat → Int} {P : Nat → Nat → Option Nat} {K : List zV → zH → Prop} {z N : Int} {x rn : Nat} (hn : 90 ≤ n) (hC : ∀ a, 1 ≤ a → a ≤ 55 → T a = zFixC a) (hz : 0 ≤ z ∧ z ≤ 1) (hN : 1 ≤ N ∧ N ≤ 89) (ix : x = 23 ∨ x = 30 ∨ x = 42 ∨ x = 49) (hfo : P 14 3 = some x) (hnh : P 14 4 = some rn) (hrn : rn = 22 ∨ rn = 41) (trn : T rn = (2, 0, [12, 12])) (hpre : ∀ j : Nat, (j : Int) < N → ∃ q, P (x + 4) j = some q) (hN : I x 6 = N) (hz : z = 1 → N ≤ 40 ∧ zTk2 N (-1) I) (hK : ∀ n2 sl2 T2 I2 P2 G2, zTn n T T2 → zTm T T2 → zQs (zIp x n) I I2 → zPs2 (zPp x n) P P2 → zPps x N (I2 x 8) T2 P2 → (n ≤ n2 ∧ n2 ≤ n + 178 ∧ sl2 ≤ sl + 1513) → K [] (n2, sl2, T2, I2, P2, G2)) (m : Nat) : ∀ (n2 sl2 : Nat) (T2 : Nat → zT) (I2 : Nat → Nat → Int) (P2 : Nat → Nat → Option Nat) (G2 : Nat → Nat → Int), ∀ (f c : Int), I2 x 8 = c → 0 ≤ f ∧ f ≤ 89 → 0 ≤ c ∧ c ≤ 89 → (n ≤ n2 ∧ n2 ≤ n + 2 * f.toNat ∧ sl2 ≤ sl + 17 * f.toNat) → zTn n T T2 → zTm T T2 → zQs (zIp x n) I I2 → zPs2 (zPp x n) P P2 → zPps x N c T2 P2 → f ≤ N ∧ c ≤ f → (89 - f).toNat < m → zB zMd L xs 54 51 [(0, .inr (.inl (some 14))), (1, .inr (.inl (some x))), (4, .inl z), (6, .inl f)] [] (n2, sl2, T2, I2, P2, G2) K := by
  have t14 : T 14 = (1, 6, [1]) := hC 14 (by decide) (by decide)
  have t16 : T 16 = (2, 0, [41, 23]) := hC 16 (by decide) (by decide)
  have tx := zFl_t hC ix
  induction m with
  | zero => intro n2 sl2 T2 I2 P2 G2 f c hc8 hf hc hI2 htn htm hqi hqp hps hb3 hm; omega
  | succ m ih =>
    intro n2 sl2 T2 I2 P2 G2 f c hc8 hf hc hI2 htn htm hqi hqp hps hb3 hm
    refine z_iload (pc2 := 53) rfl rfl rfl ?_
    refine z_aload_n (pc2 := 54) rfl rfl rfl ?_
    refine z_getI (pc2 := 57) 0 rfl rfl rfl rfl rfl ((htn _ (by omega)).trans tx.1) ?_
    intro v1 e1 r1 k1
    replace k1 : (0 : Int) ≤ v1 ∧ v1 ≤ 89 := k1
    replace e1 : N = v1 := by rw [e1]; first | exact ((hqi x 6 (by unfold zIp; omega)).trans hN) | exact Eq.symm ((hqi x 6 (by unfold zIp; omega)).trans hN) | (simp [zU]; first | done | exact ((hqi x 6 (by unfold zIp; omega)).trans hN) | exact Eq.symm ((hqi x 6 (by unfold zIp; omega)).trans hN) | omega)
    subst e1
    refine z_icmp_ge (t := 109) (pc2 := 60) rfl rfl rfl (by omega) (by omega) (fun c2 => ?_) (fun c2 => ?_)
    ·
      refine z_ret rfl rfl ?_
      exact hK _ _ _ _ _ _ htn htm hqi hqp (by rw [hc8]; exact hps) (by omega)
    ·
      refine z_iconst (pc2 := 61) rfl rfl ?_
      refine z_iload (pc2 := 63) rfl rfl rfl ?_
      refine z_if_eq (t := 76) (pc2 := 66) rfl rfl rfl (by omega) (fun c3 => ?_) (fun c3 => ?_)
      ·
        refine z_aload_n (pc2 := 77) rfl rfl rfl ?_
        refine z_iload (pc2 := 79) rfl rfl rfl ?_
        refine z_callV (y2 := 58) (as := [_]) (rest := [_]) (pc2 := 82) rfl rfl rfl rfl ((htn _ (by omega)).trans t14) rfl ?_
        refine c_Pager_linesFilling (N := N) (by omega) (fun a h1 h2 => ((htn : zTn n _ _) a (by omega)).trans (hC a h1 h2)) (by omega) (by omega) ix (by omega) ((hqp 14 3 (by unfold zPp; omega)).trans hfo) ((hqp 14 4 (by unfold zPp; omega)).trans hnh) hrn ((htn _ (by omega)).trans trn) (fun j hj => by rw [hqp _ _ (by unfold zPp; omega)]; exact hpre j hj) ((hqi x 6 (by unfold zIp; omega)).trans hN) (fun w4 I4 G4 f4 b4 => ?_)
        show zB _ _ _ _ _ _ [_, _] _ _
        refine z_max (pc2 := 85) rfl rfl rfl rfl (by omega) (by omega) (fun v5 v5a v5b => ?_)
        refine z_istore (lv2 := [(5, _), (0, _), (1, _), (4, _), (6, _)]) (pc2 := 87) rfl rfl rfl rfl ?_
        refine z_aload_n (pc2 := 88) rfl rfl rfl ?_
        refine z_aload_n (pc2 := 89) rfl rfl rfl ?_
        refine z_iload (pc2 := 91) rfl rfl rfl ?_
        refine z_iload (pc2 := 93) rfl rfl rfl ?_
        refine z_callV (y2 := 59) (as := [_, _]) (rest := [_]) (pc2 := 96) rfl rfl rfl rfl ((htn _ (by omega)).trans t14) rfl ?_
        refine c_Pager_makePage (N := N) (by omega) (fun a h1 h2 => ((htn : zTn n _ _) a (by omega)).trans (hC a h1 h2)) (by omega) (by omega) (by omega) ix (by omega) ((hqp 14 3 (by unfold zPp; omega)).trans hfo) ((hqp 14 4 (by unfold zPp; omega)).trans hnh) hrn ((htn _ (by omega)).trans trn) (fun j hj => by rw [hqp _ _ (by unfold zPp; omega)]; exact hpre j hj) (((zQs_t hqi (fun a k ha => f4 a k (by unfold zIp at ha; omega) (by unfold zIp at ha; omega))) x 6 (by unfold zIp; omega)).trans hN) (fun s6 T6 I6 P6 G6 a6 b6 c6 d6 e6 j6 => ?_)
        show zB _ _ _ _ _ _ [_, _] _ _
        refine z_callV (y2 := 29) (as := [_]) (rest := []) (pc2 := 99) rfl rfl rfl rfl ((a6 _ (by omega)).trans ((htn _ (by omega)).trans tx.1)) rfl ?_
        refine z_inl ?_
        refine z_lv (lv2 := [(0, _), (1, _)]) ⟨rfl, rfl, trivial⟩ ?_
        refine z_aload_n (pc2 := 1) rfl rfl rfl ?_
        refine z_getI (pc2 := 4) 0 rfl rfl rfl rfl rfl ((a6 _ (by omega)).trans ((htn _ (by omega)).trans tx.1)) ?_
        intro v7 e7 r7 k7
        replace k7 : (0 : Int) ≤ v7 ∧ v7 ≤ 89 := k7
        replace e7 : c = v7 := by rw [e7]; first | exact ((b6 x 8 (by omega) (by omega) (by omega)).trans ((f4 x 8 (by omega) (by omega)).trans hc8)) | exact Eq.symm ((b6 x 8 (by omega) (by omega) (by omega)).trans ((f4 x 8 (by omega) (by omega)).trans hc8)) | (simp [zU]; first | done | exact ((b6 x 8 (by omega) (by omega) (by omega)).trans ((f4 x 8 (by omega) (by omega)).trans hc8)) | exact Eq.symm ((b6 x 8 (by omega) (by omega) (by omega)).trans ((f4 x 8 (by omega) (by omega)).trans hc8)) | omega)
        subst e7
        refine z_bipush (pc2 := 6) rfl rfl (by decide) ?_
        refine z_icmp_ge (t := 29) (pc2 := 9) rfl rfl rfl (by omega) (by omega) (fun c8 => by exfalso; omega) (fun c8 => ?_)
        refine z_aload_n (pc2 := 10) rfl rfl rfl ?_
        refine z_getP (pc2 := 13) rfl rfl rfl rfl ((a6 _ (by omega)).trans ((htn _ (by omega)).trans tx.1)) ?_
        intro p9 p9e p9k
        replace p9k : p9 = some (x + 5) := p9k; clear p9e; subst p9k
        refine z_aload_n (pc2 := 14) rfl rfl rfl ?_
        refine z_getI (pc2 := 17) 0 rfl rfl rfl rfl rfl ((a6 _ (by omega)).trans ((htn _ (by omega)).trans tx.1)) ?_
        intro v10 e10 r10 k10
        replace k10 : (0 : Int) ≤ v10 ∧ v10 ≤ 89 := k10
        replace e10 : c = v10 := by rw [e10]; first | exact ((b6 x 8 (by omega) (by omega) (by omega)).trans ((f4 x 8 (by omega) (by omega)).trans hc8)) | exact Eq.symm ((b6 x 8 (by omega) (by omega) (by omega)).trans ((f4 x 8 (by omega) (by omega)).trans hc8)) | (simp [zU]; first | done | exact ((b6 x 8 (by omega) (by omega) (by omega)).trans ((f4 x 8 (by omega) (by omega)).trans hc8)) | exact Eq.symm ((b6 x 8 (by omega) (by omega) (by omega)).trans ((f4 x 8 (by omega) (by omega)).trans hc8)) | omega)
        subst e10
        refine z_aload_n (pc2 := 18) rfl rfl rfl ?_
        refine z_aast (pc2 := 19) rfl rfl ((a6 _ (by omega)).trans ((htn _ (by omega)).trans tx.2.2.2.2.2.1)) rfl (by omega) (by omega) (by omega) (fun b hb => by cases hb; rw [d6]; exact ⟨_, rfl, rfl⟩) (Or.inr ⟨_, rfl, by omega, _, _, d6⟩) ?_
        refine z_aload_n (pc2 := 20) rfl rfl rfl ?_
        refine z_dup (pc2 := 21) rfl rfl rfl ?_
        refine z_getI (pc2 := 24) 0 rfl rfl rfl rfl rfl ((a6 _ (by omega)).trans ((htn _ (by omega)).trans tx.1)) ?_
        intro v11 e11 r11 k11
        replace k11 : (0 : Int) ≤ v11 ∧ v11 ≤ 89 := k11
        replace e11 : c = v11 := by rw [e11]; first | exact ((b6 x 8 (by omega) (by omega) (by omega)).trans ((f4 x 8 (by omega) (by omega)).trans hc8)) | exact Eq.symm ((b6 x 8 (by omega) (by omega) (by omega)).trans ((f4 x 8 (by omega) (by omega)).trans hc8)) | (simp [zU]; first | done | exact ((b6 x 8 (by omega) (by omega) (by omega)).trans ((f4 x 8 (by omega) (by omega)).trans hc8)) | exact Eq.symm ((b6 x 8 (by omega) (by omega) (by omega)).trans ((f4 x 8 (by omega) (by omega)).trans hc8)) | omega)
        subst e11
        refine z_iconst (pc2 := 25) rfl rfl ?_
        refine z_iadd (pc2 := 26) rfl rfl ?_
        refine z_putI (pc2 := 29) rfl rfl rfl rfl rfl rfl ((a6 _ (by omega)).trans ((htn _ (by omega)).trans tx.1)) (by omega) (by show (0 : Int) ≤ _ ∧ _ ≤ 89; omega) ?_
        refine z_ret rfl rfl ?_
        show zB _ _ _ _ _ _ [] _ _
        refine z_iload (pc2 := 101) rfl rfl rfl ?_
        refine z_iload (pc2 := 103) rfl rfl rfl ?_
        refine z_iadd (pc2 := 104) rfl rfl ?_
        refine z_istore (lv2 := [(6, _), (5, _), (0, _), (1, _), (4, _)]) (pc2 := 106) rfl rfl rfl rfl ?_
        refine z_goto (pc2 := 51) rfl rfl ?_
        refine z_lv (lv2 := [(0, _), (1, _), (4, _), (6, _)]) ⟨rfl, rfl, rfl, rfl, trivial⟩ ?_
        exact ih _ _ _ _ _ _ _ _ (zU_same _ _ _ _) (by omega) (by omega) (by omega) (zTn_t (m := n2) htn a6 (by omega)) (zTm_tr htm e6) (zQs_u (zQs_t (zQs_t hqi (fun a k ha => f4 a k (by unfold zIp at ha; omega) (by unfold zIp at ha; omega))) (fun a k ha => b6 a k (by unfold zIp at ha; omega) (by unfold zIp at ha; omega) (by unfold zIp at ha; omega))) (by unfold zIp; omega)) (zPs_v (zPs_t hqp (fun a k ha => c6 a k (by unfold zPp at ha; omega))) (by unfold zPp; omega)) (zPps_s hps e6 (fun j => c6 _ j (by omega)) (by omega) d6 (by omega)) (by omega) (by omega)
      ·
        refine z_aload_n (pc2 := 67) rfl rfl rfl ?_
        refine z_getP (pc2 := 70) rfl rfl rfl rfl ((htn _ (by omega)).trans t14) ?_
        intro p12 p12e p12k
        replace p12k : p12 = some 16 := p12k; clear p12e; subst p12k
        refine z_iload (pc2 := 72) rfl rfl rfl ?_
        refine z_iald (pc2 := 73) rfl rfl ((htn _ (by omega)).trans t16) (by omega) (by omega) (by omega) ?_
        intro v13 e13 r13 k13
        replace k13 : (0 : Int) ≤ v13 ∧ v13 ≤ 40 := k13
        have v13b : 1 ≤ v13 ∧ v13 ≤ N - f := by have h9 := (hz (by omega)).2 f.toNat (by omega) (by omega); rw [e13, hqi 16 _ (by unfold zIp; omega)]; rw [show ((f.toNat : Nat) : Int) = f by omega] at h9; exact h9
        refine z_goto (pc2 := 82) rfl rfl ?_
        refine z_max (pc2 := 85) rfl rfl rfl rfl (by omega) (by omega) (fun v14 v14a v14b => ?_)
        refine z_istore (lv2 := [(5, _), (0, _), (1, _), (4, _), (6, _)]) (pc2 := 87) rfl rfl rfl rfl ?_
        refine z_aload_n (pc2 := 88) rfl rfl rfl ?_
        refine z_aload_n (pc2 := 89) rfl rfl rfl ?_
        refine z_iload (pc2 := 91) rfl rfl rfl ?_
        refine z_iload (pc2 := 93) rfl rfl rfl ?_
        refine z_callV (y2 := 59) (as := [_, _]) (rest := [_]) (pc2 := 96) rfl rfl rfl rfl ((htn _ (by omega)).trans t14) rfl ?_
        refine c_Pager_makePage (N := N) (by omega) (fun a h1 h2 => ((htn : zTn n _ _) a (by omega)).trans (hC a h1 h2)) (by omega) (by omega) (by omega) ix (by omega) ((hqp 14 3 (by unfold zPp; omega)).trans hfo) ((hqp 14 4 (by unfold zPp; omega)).trans hnh) hrn ((htn _ (by omega)).trans trn) (fun j hj => by rw [hqp _ _ (by unfold zPp; omega)]; exact hpre j hj) ((hqi x 6 (by unfold zIp; omega)).trans hN) (fun s15 T15 I15 P15 G15 a15 b15 c15 d15 e15 j15 => ?_)
        show zB _ _ _ _ _ _ [_, _] _ _
        refine z_callV (y2 := 29) (as := [_]) (rest := []) (pc2 := 99) rfl rfl rfl rfl ((a15 _ (by omega)).trans ((htn _ (by omega)).trans tx.1)) rfl ?_
        refine z_inl ?_
        refine z_lv (lv2 := [(0, _), (1, _)]) ⟨rfl, rfl, trivial⟩ ?_
        refine z_aload_n (pc2 := 1) rfl rfl rfl ?_
        refine z_getI (pc2 := 4) 0 rfl rfl rfl rfl rfl ((a15 _ (by omega)).trans ((htn _ (by omega)).trans tx.1)) ?_
        intro v16 e16 r16 k16
        replace k16 : (0 : Int) ≤ v16 ∧ v16 ≤ 89 := k16
        replace e16 : c = v16 := by rw [e16]; first | exact ((b15 x 8 (by omega) (by omega) (by omega)).trans hc8) | exact Eq.symm ((b15 x 8 (by omega) (by omega) (by omega)).trans hc8) | (simp [zU]; first | done | exact ((b15 x 8 (by omega) (by omega) (by omega)).trans hc8) | exact Eq.symm ((b15 x 8 (by omega) (by omega) (by omega)).trans hc8) | omega)
        subst e16
        refine z_bipush (pc2 := 6) rfl rfl (by decide) ?_
        refine z_icmp_ge (t := 29) (pc2 := 9) rfl rfl rfl (by omega) (by omega) (fun c17 => by exfalso; omega) (fun c17 => ?_)
        refine z_aload_n (pc2 := 10) rfl rfl rfl ?_
        refine z_getP (pc2 := 13) rfl rfl rfl rfl ((a15 _ (by omega)).trans ((htn _ (by omega)).trans tx.1)) ?_
        intro p18 p18e p18k
        replace p18k : p18 = some (x + 5) := p18k; clear p18e; subst p18k
        refine z_aload_n (pc2 := 14) rfl rfl rfl ?_
        refine z_getI (pc2 := 17) 0 rfl rfl rfl rfl rfl ((a15 _ (by omega)).trans ((htn _ (by omega)).trans tx.1)) ?_
        intro v19 e19 r19 k19
        replace k19 : (0 : Int) ≤ v19 ∧ v19 ≤ 89 := k19
        replace e19 : c = v19 := by rw [e19]; first | exact ((b15 x 8 (by omega) (by omega) (by omega)).trans hc8) | exact Eq.symm ((b15 x 8 (by omega) (by omega) (by omega)).trans hc8) | (simp [zU]; first | done | exact ((b15 x 8 (by omega) (by omega) (by omega)).trans hc8) | exact Eq.symm ((b15 x 8 (by omega) (by omega) (by omega)).trans hc8) | omega)
        subst e19
        refine z_aload_n (pc2 := 18) rfl rfl rfl ?_
        refine z_aast (pc2 := 19) rfl rfl ((a15 _ (by omega)).trans ((htn _ (by omega)).trans tx.2.2.2.2.2.1)) rfl (by omega) (by omega) (by omega) (fun b hb => by cases hb; rw [d15]; exact ⟨_, rfl, rfl⟩) (Or.inr ⟨_, rfl, by omega, _, _, d15⟩) ?_
        refine z_aload_n (pc2 := 20) rfl rfl rfl ?_
        refine z_dup (pc2 := 21) rfl rfl rfl ?_
        refine z_getI (pc2 := 24) 0 rfl rfl rfl rfl rfl ((a15 _ (by omega)).trans ((htn _ (by omega)).trans tx.1)) ?_
        intro v20 e20 r20 k20
        replace k20 : (0 : Int) ≤ v20 ∧ v20 ≤ 89 := k20
        replace e20 : c = v20 := by rw [e20]; first | exact ((b15 x 8 (by omega) (by omega) (by omega)).trans hc8) | exact Eq.symm ((b15 x 8 (by omega) (by omega) (by omega)).trans hc8) | (simp [zU]; first | done | exact ((b15 x 8 (by omega) (by omega) (by omega)).trans hc8) | exact Eq.symm ((b15 x 8 (by omega) (by omega) (by omega)).trans hc8) | omega)
        subst e20
        refine z_iconst (pc2 := 25) rfl rfl ?_
        refine z_iadd (pc2 := 26) rfl rfl ?_
        refine z_putI (pc2 := 29) rfl rfl rfl rfl rfl rfl ((a15 _ (by omega)).trans ((htn _ (by omega)).trans tx.1)) (by omega) (by show (0 : Int) ≤ _ ∧ _ ≤ 89; omega) ?_
        refine z_ret rfl rfl ?_
        show zB _ _ _ _ _ _ [] _ _
        refine z_iload (pc2 := 101) rfl rfl rfl ?_
        refine z_iload (pc2 := 103) rfl rfl rfl ?_
        refine z_iadd (pc2 := 104) rfl rfl ?_
        refine z_istore (lv2 := [(6, _), (5, _), (0, _), (1, _), (4, _)]) (pc2 := 106) rfl rfl rfl rfl ?_
        refine z_goto (pc2 := 51) rfl rfl ?_
        refine z_lv (lv2 := [(0, _), (1, _), (4, _), (6, _)]) ⟨rfl, rfl, rfl, rfl, trivial⟩ ?_
        exact ih _ _ _ _ _ _ _ _ (zU_same _ _ _ _) (by omega) (by omega) (by omega) (zTn_t (m := n2) htn a15 (by omega)) (zTm_tr htm e15) (zQs_u (zQs_t hqi (fun a k ha => b15 a k (by unfold zIp at ha; omega) (by unfold zIp at ha; omega) (by unfold zIp at ha; omega))) (by unfold zIp; omega)) (zPs_v (zPs_t hqp (fun a k ha => c15 a k (by unfold zPp at ha; omega))) (by unfold zPp; omega)) (zPps_s hps e15 (fun j => c15 _ j (by omega)) (by omega) d15 (by omega)) (by omega) (by omega)
set_option maxHeartbeats 8000000 in
theorem c_Pager_makePages {L : Nat} {xs : Nat → Int32} {n sl : Nat} {T : Nat → zT} {I : Nat → Nat → Int} {P : Nat → Nat → Option Nat} {G : Nat → Nat → Int} {K : List zV → zH → Prop} {h N : Int} {x rn : Nat} (hn : 90 ≤ n) (hC : ∀ a, 1 ≤ a → a ≤ 55 → T a = zFixC a) (hh : 1 ≤ h ∧ h ≤ 60) (hN : 1 ≤ N ∧ N ≤ 89) (ix : x = 23 ∨ x = 30 ∨ x = 42 ∨ x = 49) (hrn : rn = 22 ∨ rn = 41) (trn : T rn = (2, 0, [12, 12])) (hpre : ∀ j : Nat, (j : Int) < N → ∃ q, P (x + 4) j = some q) (hN : I x 6 = N) (hK : ∀ n2 sl2 T2 I2 P2 G2, zCP n T T2 I I2 P P2 → (n ≤ n2 ∧ n2 ≤ n + 178 ∧ sl2 ≤ sl + 1513) → K [] (n2, sl2, T2, I2, P2, G2)) : zX zMd L xs 54 [.inr (.inl (some 14)), .inr (.inl (some x)), .inr (.inl (some rn)), .inl h] (n, sl, T, I, P, G) K := by
  have t5 : T 5 = (1, 7, [1]) := hC 5 (by decide) (by decide)
  have t14 : T 14 = (1, 6, [1]) := hC 14 (by decide) (by decide)
  have tx := zFl_t hC ix
  refine z_inl ?_
  refine z_lv (lv2 := [(0, _), (1, _), (2, _), (3, _)]) ⟨rfl, rfl, rfl, rfl, trivial⟩ ?_
  refine z_aload_n (pc2 := 1) rfl rfl rfl ?_
  refine z_aload_n (pc2 := 2) rfl rfl rfl ?_
  refine z_putP (pc2 := 5) rfl rfl rfl rfl (by first | exact z_fitO _ _ | exact z_fitA _ _) rfl t14 (Or.inr (by have h9 := ix; rcases h9 with h9 | h9 | h9 | h9 <;> simp [h9])) ?_
  refine z_aload_n (pc2 := 6) rfl rfl rfl ?_
  refine z_aload_n (pc2 := 7) rfl rfl rfl ?_
  refine z_putP (pc2 := 10) rfl rfl rfl rfl (by first | exact z_fitO _ _ | exact z_fitA _ _) rfl t14 (Or.inr (by have h9 := hrn; rcases h9 with h9 | h9 <;> simp [h9])) ?_
  refine z_aload_n (pc2 := 11) rfl rfl rfl ?_
  refine z_iload_n (pc2 := 12) rfl rfl rfl ?_
  refine z_putI (pc2 := 15) rfl rfl rfl rfl rfl rfl t14 (by omega) True.intro ?_
  refine z_aload_n (pc2 := 16) rfl rfl rfl ?_
  refine z_iconst (pc2 := 17) rfl rfl ?_
  refine z_putI (pc2 := 20) rfl rfl rfl rfl rfl rfl tx.1 (by omega) (by show (0 : Int) ≤ _ ∧ _ ≤ 89; omega) ?_
  refine z_aload_n (pc2 := 21) rfl rfl rfl ?_
  refine z_getI (pc2 := 24) 0 rfl rfl rfl rfl rfl tx.1 ?_
  intro v1 e1 r1 k1
  replace k1 : (0 : Int) ≤ v1 ∧ v1 ≤ 89 := k1
  replace e1 : N = v1 := by rw [e1]; first | exact (Eq.trans (Eq.symm hN) (congrFun (zU_row _ _ _ (by omega)) _).symm) | exact Eq.symm (Eq.trans (Eq.symm hN) (congrFun (zU_row _ _ _ (by omega)) _).symm) | (simp [zU]; first | done | exact (Eq.trans (Eq.symm hN) (congrFun (zU_row _ _ _ (by omega)) _).symm) | exact Eq.symm (Eq.trans (Eq.symm hN) (congrFun (zU_row _ _ _ (by omega)) _).symm) | omega)
  subst e1
  refine z_bipush (pc2 := 26) rfl rfl (by decide) ?_
  refine z_icmp_gt (t := 33) (pc2 := 29) rfl rfl rfl (by omega) (by omega) (fun c2 => ?_) (fun c2 => ?_)
  ·
    refine z_iconst (pc2 := 34) rfl rfl ?_
    refine z_istore (lv2 := [(4, _), (0, _), (1, _), (2, _), (3, _)]) (pc2 := 36) rfl rfl rfl rfl ?_
    refine z_iload (pc2 := 38) rfl rfl rfl ?_
    refine z_if_eq (t := 45) (pc2 := 41) rfl rfl rfl (by omega) (fun c3 => ?_) (fun c3 => by exfalso; omega)
    refine z_iconst (pc2 := 46) rfl rfl ?_
    refine z_istore (lv2 := [(5, _), (4, _), (0, _), (1, _), (2, _), (3, _)]) (pc2 := 48) rfl rfl rfl rfl ?_
    refine z_iconst (pc2 := 49) rfl rfl ?_
    refine z_istore (lv2 := [(6, _), (5, _), (4, _), (0, _), (1, _), (2, _), (3, _)]) (pc2 := 51) rfl rfl rfl rfl ?_
    refine z_lv (lv2 := [(0, _), (1, _), (4, _), (6, _)]) ⟨rfl, rfl, rfl, rfl, trivial⟩ ?_
    exact cl_Pager_makePages (N := N) hn hC (by omega) (by omega) ix (by simp [zU]) (by simp [zU]) hrn trn (fun j hj => by rw [zU_row _ _ _ (by omega), zU_row _ _ _ (by omega)]; exact hpre j hj) (by rw [zU_at _ _ _ (by decide), zU_row _ _ _ (by omega)]; exact hN) (fun hz => by exfalso; omega) (fun n9 s9 T9 I9 P9 G9 h1 h2 h3 h4 h5 h6 => hK _ _ _ _ _ _ (zCP_mk hn ix h1 h2 (zMk_q zMk_e h3) (zMk_p h4) hN h5) h6) _ _ _ _ _ _ _ _ 0 (zU_same _ _ _ _) (by omega) (by omega) (by omega) zTn_rf (zTm_rf _) zQs_rf zPs_rf (fun j hj => by omega) (by omega) (Nat.lt_succ_self _)
  ·
    refine z_iconst (pc2 := 30) rfl rfl ?_
    refine z_goto (pc2 := 34) rfl rfl ?_
    refine z_istore (lv2 := [(4, _), (0, _), (1, _), (2, _), (3, _)]) (pc2 := 36) rfl rfl rfl rfl ?_
    refine z_iload (pc2 := 38) rfl rfl rfl ?_
    refine z_if_eq (t := 45) (pc2 := 41) rfl rfl rfl (by omega) (fun c4 => by exfalso; omega) (fun c4 => ?_)
    refine z_aload_n (pc2 := 42) rfl rfl rfl ?_
    refine z_callV (y2 := 55) (as := []) (rest := []) (pc2 := 45) rfl rfl rfl rfl t14 rfl ?_
    refine c_Pager_weighPages (N := N) hn hC (by omega) ix (by simp [zU]) (by simp [zU]) hrn trn (fun j hj => by rw [zU_row _ _ _ (by omega), zU_row _ _ _ (by omega)]; exact hpre j hj) (by rw [zU_at _ _ _ (by decide), zU_row _ _ _ (by omega)]; exact hN) (fun I5 G5 q5 t5 => ?_)
    show zB _ _ _ _ _ _ [] _ _
    refine z_iconst (pc2 := 46) rfl rfl ?_
    refine z_istore (lv2 := [(5, _), (4, _), (0, _), (1, _), (2, _), (3, _)]) (pc2 := 48) rfl rfl rfl rfl ?_
    refine z_iconst (pc2 := 49) rfl rfl ?_
    refine z_istore (lv2 := [(6, _), (5, _), (4, _), (0, _), (1, _), (2, _), (3, _)]) (pc2 := 51) rfl rfl rfl rfl ?_
    refine z_lv (lv2 := [(0, _), (1, _), (4, _), (6, _)]) ⟨rfl, rfl, rfl, rfl, trivial⟩ ?_
    exact cl_Pager_makePages (N := N) hn hC (by omega) (by omega) ix (by simp [zU]) (by simp [zU]) hrn trn (fun j hj => by rw [zU_row _ _ _ (by omega), zU_row _ _ _ (by omega)]; exact hpre j hj) ((q5 x 6 (by omega) (by omega) (by omega)).trans (by rw [zU_at _ _ _ (by decide), zU_row _ _ _ (by omega)]; exact hN)) (fun hz => ⟨by omega, t5⟩) (fun n9 s9 T9 I9 P9 G9 h1 h2 h3 h4 h5 h6 => hK _ _ _ _ _ _ (zCP_mk hn ix h1 h2 (zMk_q (fun a k h1 h2 h3 h4 => (q5 a k (by omega) h3 h2).trans (zMk_e a k h1 h2 h3 h4)) h3) (zMk_p h4) hN h5) h6) _ _ _ _ _ _ _ _ 0 ((q5 x 8 (by omega) (by omega) (by omega)).trans (zU_same _ _ _ _)) (by omega) (by omega) (by omega) zTn_rf (zTm_rf _) zQs_rf zPs_rf (fun j hj => by omega) (by omega) (Nat.lt_succ_self _)
set_option maxHeartbeats 8000000 in
theorem c_TypeRoom_makeup {L : Nat} {xs : Nat → Int32} {n sl : Nat} {T : Nat → zT} {I : Nat → Nat → Int} {P : Nat → Nat → Option Nat} {G : Nat → Nat → Int} {K : List zV → zH → Prop} {a : Int} (hn : 90 ≤ n) (hC : ∀ a, 1 ≤ a → a ≤ 55 → T a = zFixC a) (ha : zR a) (hcr : zCR T I P) (hK : ∀ e n2 sl2 T2 I2 P2 G2, zCP n T T2 I I2 P P2 → (n ≤ n2 ∧ n2 ≤ n + 178 ∧ sl2 ≤ sl + 1513) → K [.inl e] (n2, sl2, T2, I2, P2, G2)) : zX zMd L xs 130 [.inr (.inl (some 1)), .inl a] (n, sl, T, I, P, G) K := by
  have t1 : T 1 = (1, 11, [1]) := hC 1 (by decide) (by decide)
  have t14 : T 14 = (1, 6, [1]) := hC 14 (by decide) (by decide)
  refine z_inl ?_
  refine z_lv (lv2 := [(0, _), (1, _)]) ⟨rfl, rfl, trivial⟩ ?_
  refine z_iload_n (pc2 := 1) rfl rfl rfl ?_
  refine z_iconst (pc2 := 2) rfl rfl ?_
  refine z_bipush (pc2 := 4) rfl rfl (by decide) ?_
  refine z_callS (y2 := 155) (as := [_, _, _]) (rest := []) (pc2 := 7) rfl rfl rfl rfl ?_
  refine c_TypeRoom_isOutside (by omega) (by omega) (by omega) (fun e1 e1a e1b e1c => ?_)
  show zB _ _ _ _ _ _ [_] _ _
  refine z_if_eq (t := 16) (pc2 := 10) rfl rfl rfl (by omega) (fun c2 => ?_) (fun c2 => ?_)
  ·
    refine z_aload_n (pc2 := 17) rfl rfl rfl ?_
    refine z_getP (pc2 := 20) rfl rfl rfl rfl t1 ?_
    intro p3 p3e p3k
    obtain ⟨b4, rfl, hb4⟩ := zHere p3k
    have tb4 := zRm_t hC hb4
    refine z_getP (pc2 := 23) rfl rfl rfl rfl tb4.1 ?_
    intro p5 p5e p5k
    obtain ⟨x6, rfl, hx6⟩ := zFloorOf p5k
    have ix6 : x6 = 23 ∨ x6 = 30 ∨ x6 = 42 ∨ x6 = 49 := by omega
    have tx6 := zFl_t hC ix6
    refine z_getI (pc2 := 26) 0 rfl rfl rfl rfl rfl tx6.1 ?_
    intro v7 e7 r7 k7
    replace k7 : (0 : Int) ≤ v7 ∧ v7 ≤ 89 := k7
    refine z_if_ne (t := 36) (pc2 := 29) rfl rfl rfl (by omega) (fun c8 => ?_) (fun c8 => ?_)
    ·
      refine z_aload_n (pc2 := 37) rfl rfl rfl ?_
      refine z_getP (pc2 := 40) rfl rfl rfl rfl t1 ?_
      intro p9 p9e p9k
      clear p9k; replace p9e : p9 = some b4 := by rw [p9e]; first | exact p3e | exact Eq.symm p3e | (simp [zU]; first | done | exact p3e | exact Eq.symm p3e | omega)
      subst p9e
      refine z_callV (y2 := 77) (as := []) (rest := []) (pc2 := 43) rfl rfl rfl rfl tb4.1 rfl ?_
      have c10 := hcr
      obtain ⟨z10, hz10, hd10⟩ := zCR_z c10 hb4 (Eq.symm p5e)
      have iz10 : z10 = 23 ∨ z10 = 30 ∨ z10 = 42 ∨ z10 = 49 := by omega
      refine c_Room_keep hn hC hb4 ix6 iz10 (by omega) (c10.2.2 _ ix6) (Eq.symm p5e) hz10 (fun I10 P10 G10 k10 f10 => ?_)
      show zB _ _ _ _ _ _ [] _ _
      refine z_aload_n (pc2 := 44) rfl rfl rfl ?_
      refine z_getP (pc2 := 47) rfl rfl rfl rfl t1 ?_
      intro p11 p11e p11k
      replace p11k : p11 = some 14 := p11k; clear p11e; subst p11k
      refine z_aload_n (pc2 := 48) rfl rfl rfl ?_
      refine z_getP (pc2 := 51) rfl rfl rfl rfl t1 ?_
      intro p12 p12e p12k
      clear p12k; replace p12e : p12 = some b4 := by rw [p12e]; first | exact (Eq.trans p3e (Eq.symm (k10.2 _ _ (by omega)))) | exact Eq.symm (Eq.trans p3e (Eq.symm (k10.2 _ _ (by omega)))) | (simp [zU]; first | done | exact (Eq.trans p3e (Eq.symm (k10.2 _ _ (by omega)))) | exact Eq.symm (Eq.trans p3e (Eq.symm (k10.2 _ _ (by omega)))) | omega)
      subst p12e
      refine z_getP (pc2 := 54) rfl rfl rfl rfl tb4.1 ?_
      intro p13 p13e p13k
      clear p13k; replace p13e : p13 = some x6 := by rw [p13e]; first | exact (Eq.trans p5e (Eq.symm (k10.2 _ _ (by omega)))) | exact Eq.symm (Eq.trans p5e (Eq.symm (k10.2 _ _ (by omega)))) | (simp [zU]; first | done | exact (Eq.trans p5e (Eq.symm (k10.2 _ _ (by omega)))) | exact Eq.symm (Eq.trans p5e (Eq.symm (k10.2 _ _ (by omega)))) | omega)
      subst p13e
      refine z_aload_n (pc2 := 55) rfl rfl rfl ?_
      refine z_getP (pc2 := 58) rfl rfl rfl rfl t1 ?_
      intro p14 p14e p14k
      clear p14k; replace p14e : p14 = some b4 := by rw [p14e]; first | exact (Eq.trans p3e (Eq.symm (k10.2 _ _ (by omega)))) | exact Eq.symm (Eq.trans p3e (Eq.symm (k10.2 _ _ (by omega)))) | (simp [zU]; first | done | exact (Eq.trans p3e (Eq.symm (k10.2 _ _ (by omega)))) | exact Eq.symm (Eq.trans p3e (Eq.symm (k10.2 _ _ (by omega)))) | omega)
      subst p14e
      refine z_getP (pc2 := 61) rfl rfl rfl rfl tb4.1 ?_
      intro p15 p15e p15k
      replace p15k : p15 = some (b4 + 4) := p15k; clear p15e; subst p15k
      refine z_iload_n (pc2 := 62) rfl rfl rfl ?_
      refine z_callV (y2 := 54) (as := [_, _, _]) (rest := []) (pc2 := 65) rfl rfl rfl rfl t14 rfl ?_
      have y16 : I10 x6 6 = I x6 6 := k10.1 x6 6 (by omega) (by omega) (by omega) (by omega)
      refine c_Pager_makePages (N := I10 x6 6) hn hC (by omega) (by omega) ix6 (by omega) tb4.2.2.2.2 (zFlr_k2 (hcr.2.2 _ ix6) ix6 iz10 hb4 (by omega) k10).1 rfl (fun n16 s16 T16 I16 P16 G16 f16 b16 => ?_)
      show zB _ _ _ _ _ _ [] _ _
      refine z_aload_n (pc2 := 66) rfl rfl rfl ?_
      refine z_aload_n (pc2 := 67) rfl rfl rfl ?_
      refine z_getP (pc2 := 70) rfl rfl rfl rfl ((f16.1 _ (by omega)).trans t1) ?_
      intro p17 p17e p17k
      obtain ⟨b18, rfl, hb18⟩ := zHere p17k
      have tb18 := zRm_t hC hb18
      refine z_getP (pc2 := 73) rfl rfl rfl rfl ((f16.1 _ (by omega)).trans tb18.1) ?_
      intro p19 p19e p19k
      obtain ⟨x20, rfl, hx20⟩ := zFloorOf p19k
      have ix20 : x20 = 23 ∨ x20 = 30 ∨ x20 = 42 ∨ x20 = 49 := by omega
      have tx20 := zFl_t hC ix20
      refine z_getI (pc2 := 76) 0 rfl rfl rfl rfl rfl ((f16.1 _ (by omega)).trans tx20.1) ?_
      intro v21 e21 r21 k21
      replace k21 : (0 : Int) ≤ v21 ∧ v21 ≤ 89 := k21
      refine z_callV (y2 := 144) (as := [_]) (rest := []) (pc2 := 79) rfl rfl rfl rfl ((f16.1 _ (by omega)).trans t1) rfl ?_
      refine z_inl ?_
      refine z_lv (lv2 := [(0, _), (1, _)]) ⟨rfl, rfl, trivial⟩ ?_
      refine z_aload_n (pc2 := 1) rfl rfl rfl ?_
      refine z_iconst (pc2 := 2) rfl rfl ?_
      refine z_putI (pc2 := 5) rfl rfl rfl rfl rfl rfl ((f16.1 _ (by omega)).trans t1) (by omega) True.intro ?_
      refine z_iload_n (pc2 := 6) rfl rfl rfl ?_
      refine z_iret rfl rfl ?_
      show zB _ _ _ _ _ _ [_] _ _
      refine z_iret rfl rfl ?_
      exact hK _ _ _ _ _ _ _ (zCP_tr (m := n16) (zCP_tr (m := n) (zCP_tr (m := n) (zCP_keep2 (n := n) iz10 hb4 k10 f10) (zCP_q ⟨zTn_rf, zQi_rf, zQp_rf⟩ (zTm_rf _)) (by omega)) f16 (by omega)) (zCP_q ⟨zTn_rf, (zQi_u zQi_rf (by unfold zIr; omega)), zQp_rf⟩ (zTm_rf _)) (by omega)) (by omega)
    ·
      refine z_aload_n (pc2 := 30) rfl rfl rfl ?_
      refine z_bipush (pc2 := 32) rfl rfl (by decide) ?_
      refine z_callV (y2 := 142) (as := [_]) (rest := []) (pc2 := 35) rfl rfl rfl rfl t1 rfl ?_
      refine z_inl ?_
      refine z_lv (lv2 := [(0, _), (1, _)]) ⟨rfl, rfl, trivial⟩ ?_
      refine z_aload_n (pc2 := 1) rfl rfl rfl ?_
      refine z_iload_n (pc2 := 2) rfl rfl rfl ?_
      refine z_putI (pc2 := 5) rfl rfl rfl rfl rfl rfl t1 (by omega) True.intro ?_
      refine z_iload_n (pc2 := 6) rfl rfl rfl ?_
      refine z_iret rfl rfl ?_
      show zB _ _ _ _ _ _ [_] _ _
      refine z_iret rfl rfl ?_
      exact hK _ _ _ _ _ _ _ (zCP_q ⟨zTn_rf, (zQi_u zQi_rf (by unfold zIr; omega)), zQp_rf⟩ (zTm_rf _)) (by omega)
  ·
    refine z_aload_n (pc2 := 11) rfl rfl rfl ?_
    refine z_iconst (pc2 := 12) rfl rfl ?_
    refine z_callV (y2 := 142) (as := [_]) (rest := []) (pc2 := 15) rfl rfl rfl rfl t1 rfl ?_
    refine z_inl ?_
    refine z_lv (lv2 := [(0, _), (1, _)]) ⟨rfl, rfl, trivial⟩ ?_
    refine z_aload_n (pc2 := 1) rfl rfl rfl ?_
    refine z_iload_n (pc2 := 2) rfl rfl rfl ?_
    refine z_putI (pc2 := 5) rfl rfl rfl rfl rfl rfl t1 (by omega) True.intro ?_
    refine z_iload_n (pc2 := 6) rfl rfl rfl ?_
    refine z_iret rfl rfl ?_
    show zB _ _ _ _ _ _ [_] _ _
    refine z_iret rfl rfl ?_
    exact hK _ _ _ _ _ _ _ (zCP_q ⟨zTn_rf, (zQi_u zQi_rf (by unfold zIr; omega)), zQp_rf⟩ (zTm_rf _)) (by omega)
