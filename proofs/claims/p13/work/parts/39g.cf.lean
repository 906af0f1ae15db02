/-! the class: the stick and the tray -/
set_option maxHeartbeats 8000000 in
theorem cl_Floor_hasSortInTray {L : Nat} {xs : Nat → Int32} {n sl : Nat} {T : Nat → zT} {I : Nat → Nat → Int} {P : Nat → Nat → Option Nat} {G : Nat → Nat → Int} {K : List zV → zH → Prop} {u : Int} {x : Nat} (hn : 90 ≤ n) (hC : ∀ a, 1 ≤ a → a ≤ 55 → T a = zFixC a) (hu : -1 ≤ u ∧ u ≤ 8) (ix : x = 23 ∨ x = 30 ∨ x = 42 ∨ x = 49) (hu : I x 4 = u) (hK : ∀ e, (0 ≤ e ∧ e ≤ 1) → K [.inl e] (n, sl, T, I, P, G)) (m : Nat) : ∀ (k : Int), 0 ≤ k ∧ k ≤ 8 → (8 - k).toNat < m → zB zMd L xs 25 2 [(0, .inr (.inl (some x))), (1, .inl k)] [] (n, sl, T, I, P, G) K := by
  have tx := zFl_t hC ix
  induction m with
  | zero => intro k hk hm; omega
  | succ m ih =>
    intro k hk hm
    refine z_iload_n (pc2 := 3) rfl rfl rfl ?_
    refine z_aload_n (pc2 := 4) rfl rfl rfl ?_
    refine z_getI (pc2 := 7) 0 rfl rfl rfl rfl rfl tx.1 ?_
    intro v1 e1 r1 k1
    replace k1 : (-1 : Int) ≤ v1 ∧ v1 ≤ 8 := k1
    replace e1 : u = v1 := by rw [e1]; first | exact hu | exact Eq.symm hu | (simp [zU]; first | done | exact hu | exact Eq.symm hu | omega)
    subst e1
    refine z_icmp_ge (t := 27) (pc2 := 10) rfl rfl rfl (by omega) (by omega) (fun c2 => ?_) (fun c2 => ?_)
    ·
      refine z_iconst (pc2 := 28) rfl rfl ?_
      refine z_zret rfl rfl (by omega) ?_
      exact hK _ (by omega)
    ·
      refine z_aload_n (pc2 := 11) rfl rfl rfl ?_
      refine z_getP (pc2 := 14) rfl rfl rfl rfl tx.1 ?_
      intro p3 p3e p3k
      replace p3k : p3 = some (x + 3) := p3k; clear p3e; subst p3k
      refine z_iload_n (pc2 := 15) rfl rfl rfl ?_
      refine z_aald (pc2 := 16) rfl rfl tx.2.2.2.1 rfl (by omega) (by omega) (by omega) ?_
      intro p4 p4e p4k
      rcases p4k with rfl | ⟨q5, rfl, q59, d6, n7, tq5, q5c, q5b⟩
      ·
        refine z_ifnull (t := 21) (pc2 := 19) rfl rfl rfl (fun _ => ?_) (fun a h => by cases h)
        refine z_iinc (lv2 := [(1, _), (0, _)]) (pc2 := 24) rfl rfl rfl rfl rfl ?_
        refine z_goto (pc2 := 2) rfl rfl ?_
        refine z_lv (lv2 := [(0, _), (1, _)]) ⟨rfl, rfl, trivial⟩ ?_
        exact ih _ (by omega) (by omega)
      ·
        replace tq5 : _ = ((1, 9, [1, d6, n7]) : zT) := tq5
        refine zB_le tq5 trivial (fun q5l => ?_)
        refine z_ifnull (t := 21) (pc2 := 19) rfl rfl rfl (fun h => by cases h) (fun _ _ => ?_)
        refine z_iconst (pc2 := 20) rfl rfl ?_
        refine z_zret rfl rfl (by omega) ?_
        exact hK _ (by omega)
set_option maxHeartbeats 8000000 in
theorem c_Floor_hasSortInTray {L : Nat} {xs : Nat → Int32} {n sl : Nat} {T : Nat → zT} {I : Nat → Nat → Int} {P : Nat → Nat → Option Nat} {G : Nat → Nat → Int} {K : List zV → zH → Prop} {x : Nat} (hn : 90 ≤ n) (hC : ∀ a, 1 ≤ a → a ≤ 55 → T a = zFixC a) (ix : x = 23 ∨ x = 30 ∨ x = 42 ∨ x = 49) (hK : ∀ e, (0 ≤ e ∧ e ≤ 1) → K [.inl e] (n, sl, T, I, P, G)) : zX zMd L xs 25 [.inr (.inl (some x))] (n, sl, T, I, P, G) K := by
  have tx := zFl_t hC ix
  refine zX_wf2 (fun hw => ?_)
  have b4 : -1 ≤ I x 4 ∧ I x 4 ≤ 8 := by have h1 := hw.2.1 x 4; rw [show (n, sl, T, I, P, G).2.2.1 x = T x from rfl, tx.1] at h1; exact h1
  have tx := zFl_t hC ix
  refine z_inl ?_
  refine z_lv (lv2 := [(0, _)]) ⟨rfl, trivial⟩ ?_
  refine z_iconst (pc2 := 1) rfl rfl ?_
  refine z_istore_n (lv2 := [(1, _), (0, _)]) (pc2 := 2) rfl rfl rfl rfl ?_
  refine z_lv (lv2 := [(0, _), (1, _)]) ⟨rfl, rfl, trivial⟩ ?_
  exact cl_Floor_hasSortInTray hn hC (u := I x 4) b4 ix rfl hK _  _ (by omega)    (Nat.lt_succ_self _)
set_option maxHeartbeats 8000000 in
theorem c_TypeRoom_putBack {L : Nat} {xs : Nat → Int32} {n sl : Nat} {T : Nat → zT} {I : Nat → Nat → Int} {P : Nat → Nat → Option Nat} {G : Nat → Nat → Int} {K : List zV → zH → Prop} {a : Int} (hn : 90 ≤ n) (hC : ∀ a, 1 ≤ a → a ≤ 55 → T a = zFixC a) (ha : zR a) (hcr : zCR T I P) (hK : ∀ e n2 sl2 T2 I2 P2 G2, zCP n T T2 I I2 P P2 → (n ≤ n2 ∧ n2 ≤ n + 0 ∧ sl2 ≤ sl + 0) → K [.inl e] (n2, sl2, T2, I2, P2, G2)) : zX zMd L xs 119 [.inr (.inl (some 1)), .inl a] (n, sl, T, I, P, G) K := by
  have t1 : T 1 = (1, 11, [1]) := hC 1 (by decide) (by decide)
  refine z_inl ?_
  refine z_lv (lv2 := [(0, _), (1, _)]) ⟨rfl, rfl, trivial⟩ ?_
  refine z_iload_n (pc2 := 1) rfl rfl rfl ?_
  refine z_callS (y2 := 153) (as := [_]) (rest := []) (pc2 := 4) rfl rfl rfl rfl ?_
  refine z_inl ?_
  refine z_lv (lv2 := [(0, _)]) ⟨rfl, trivial⟩ ?_
  refine z_iload_n (pc2 := 1) rfl rfl rfl ?_
  refine z_iconst (pc2 := 2) rfl rfl ?_
  refine z_bipush (pc2 := 4) rfl rfl (by decide) ?_
  refine z_callS (y2 := 155) (as := [_, _, _]) (rest := []) (pc2 := 7) rfl rfl rfl rfl ?_
  refine c_TypeRoom_isOutside (by omega) (by omega) (by omega) (fun e1 e1a e1b e1c => ?_)
  show zB _ _ _ _ _ _ [_] _ _
  refine z_zret rfl rfl (by omega) ?_
  show zB _ _ _ _ _ _ [_] _ _
  refine z_if_eq (t := 13) (pc2 := 7) rfl rfl rfl (by omega) (fun c2 => ?_) (fun c2 => ?_)
  ·
    refine z_aload_n (pc2 := 14) rfl rfl rfl ?_
    refine z_callV (y2 := 148) (as := []) (rest := []) (pc2 := 17) rfl rfl rfl rfl t1 rfl ?_
    refine z_inl ?_
    refine z_lv (lv2 := [(0, _)]) ⟨rfl, trivial⟩ ?_
    refine z_aload_n (pc2 := 1) rfl rfl rfl ?_
    refine z_getI (pc2 := 4) 0 rfl rfl rfl rfl rfl t1 ?_
    intro v3 e3 r3 k3
    clear k3
    clear e3
    refine z_sipush (pc2 := 7) rfl rfl (by decide) ?_
    refine z_icmp_lt (t := 14) (pc2 := 10) rfl rfl rfl (by omega) (by omega) (fun c4 => ?_) (fun c4 => ?_)
    ·
      refine z_iconst (pc2 := 15) rfl rfl ?_
      refine z_zret rfl rfl (by omega) ?_
      show zB _ _ _ _ _ _ [_] _ _
      refine z_if_eq (t := 27) (pc2 := 20) rfl rfl rfl (by omega) (fun c5 => ?_) (fun c5 => by exfalso; omega)
      refine z_aload_n (pc2 := 28) rfl rfl rfl ?_
      refine z_getP (pc2 := 31) rfl rfl rfl rfl t1 ?_
      intro p6 p6e p6k
      obtain ⟨b7, rfl, hb7⟩ := zHere p6k
      have tb7 := zRm_t hC hb7
      refine z_getP (pc2 := 34) rfl rfl rfl rfl tb7.1 ?_
      intro p8 p8e p8k
      obtain ⟨x9, rfl, hx9⟩ := zFloorOf p8k
      have ix9 : x9 = 23 ∨ x9 = 30 ∨ x9 = 42 ∨ x9 = 49 := by omega
      have tx9 := zFl_t hC ix9
      refine z_getP (pc2 := 37) rfl rfl rfl rfl tx9.1 ?_
      intro p10 p10e p10k
      replace p10k : p10 = some (x9 + 2) := p10k; clear p10e; subst p10k
      refine z_iload_n (pc2 := 38) rfl rfl rfl ?_
      refine z_aald (pc2 := 39) rfl rfl tx9.2.2.1 rfl (by omega) (by omega) (by omega) ?_
      intro p11 p11e p11k
      rcases p11k with rfl | ⟨q12, rfl, q129, d13, n14, tq12, q12c, q12b⟩
      ·
        refine z_astore_n (lv2 := [(2, _), (0, _), (1, _)]) (pc2 := 40) rfl rfl rfl rfl ?_
        refine z_aload_n (pc2 := 41) rfl rfl rfl ?_
        refine z_ifnonnull (t := 51) (pc2 := 44) rfl rfl rfl (fun a h => by cases h) (fun _ => ?_)
        refine z_aload_n (pc2 := 45) rfl rfl rfl ?_
        refine z_bipush (pc2 := 47) rfl rfl (by decide) ?_
        refine z_callV (y2 := 143) (as := [_]) (rest := []) (pc2 := 50) rfl rfl rfl rfl t1 rfl ?_
        refine z_inl ?_
        refine z_lv (lv2 := [(0, _), (1, _)]) ⟨rfl, rfl, trivial⟩ ?_
        refine z_aload_n (pc2 := 1) rfl rfl rfl ?_
        refine z_dup (pc2 := 2) rfl rfl rfl ?_
        refine z_getI (pc2 := 5) 0 rfl rfl rfl rfl rfl t1 ?_
        intro v15 e15 r15 k15
        clear k15
        clear e15
        refine z_iconst (pc2 := 6) rfl rfl ?_
        refine z_iadd (pc2 := 7) rfl rfl ?_
        refine z_putI_any (pc2 := 10) rfl rfl rfl rfl rfl rfl t1 (fun _ _ => True.intro) (fun u16 u16r => ?_)
        refine z_aload_n (pc2 := 11) rfl rfl rfl ?_
        refine z_iload_n (pc2 := 12) rfl rfl rfl ?_
        refine z_putI (pc2 := 15) rfl rfl rfl rfl rfl rfl t1 (by omega) True.intro ?_
        refine z_iload_n (pc2 := 16) rfl rfl rfl ?_
        refine z_iret rfl rfl ?_
        show zB _ _ _ _ _ _ [_] _ _
        refine z_iret rfl rfl ?_
        exact hK _ _ _ _ _ _ _ (zCP_q ⟨zTn_rf, (zQi_u (zQi_u zQi_rf (by unfold zIr; omega)) (by unfold zIr; omega)), zQp_rf⟩ (zTm_rf _)) (by omega)
      ·
        replace tq12 : _ = ((1, 9, [1, d13, n14]) : zT) := tq12
        refine zB_le tq12 trivial (fun q12l => ?_)
        refine z_astore_n (lv2 := [(2, _), (0, _), (1, _)]) (pc2 := 40) rfl rfl rfl rfl ?_
        refine z_aload_n (pc2 := 41) rfl rfl rfl ?_
        refine z_ifnonnull (t := 51) (pc2 := 44) rfl rfl rfl (fun _ _ => ?_) (fun h => by cases h)
        refine z_aload_n (pc2 := 52) rfl rfl rfl ?_
        refine z_getP (pc2 := 55) rfl rfl rfl rfl t1 ?_
        intro p17 p17e p17k
        clear p17k; replace p17e : p17 = some b7 := by rw [p17e]; first | exact p6e | exact Eq.symm p6e | (simp [zU]; first | done | exact p6e | exact Eq.symm p6e | omega)
        subst p17e
        refine z_callV (y2 := 77) (as := []) (rest := []) (pc2 := 58) rfl rfl rfl rfl tb7.1 rfl ?_
        have c18 := hcr
        obtain ⟨z18, hz18, hd18⟩ := zCR_z c18 hb7 (Eq.symm p8e)
        have iz18 : z18 = 23 ∨ z18 = 30 ∨ z18 = 42 ∨ z18 = 49 := by omega
        refine c_Room_keep hn hC hb7 ix9 iz18 (by omega) (c18.2.2 _ ix9) (Eq.symm p8e) hz18 (fun I18 P18 G18 k18 f18 => ?_)
        show zB _ _ _ _ _ _ [] _ _
        refine z_aload_n (pc2 := 59) rfl rfl rfl ?_
        refine z_getP (pc2 := 62) rfl rfl rfl rfl t1 ?_
        intro p19 p19e p19k
        clear p19k; replace p19e : p19 = some b7 := by rw [p19e]; first | exact (Eq.trans p6e (Eq.symm (k18.2 _ _ (by omega)))) | exact Eq.symm (Eq.trans p6e (Eq.symm (k18.2 _ _ (by omega)))) | (simp [zU]; first | done | exact (Eq.trans p6e (Eq.symm (k18.2 _ _ (by omega)))) | exact Eq.symm (Eq.trans p6e (Eq.symm (k18.2 _ _ (by omega)))) | omega)
        subst p19e
        refine z_getP (pc2 := 65) rfl rfl rfl rfl tb7.1 ?_
        intro p20 p20e p20k
        clear p20k; replace p20e : p20 = some x9 := by rw [p20e]; first | exact (Eq.trans p8e (Eq.symm (k18.2 _ _ (by omega)))) | exact Eq.symm (Eq.trans p8e (Eq.symm (k18.2 _ _ (by omega)))) | (simp [zU]; first | done | exact (Eq.trans p8e (Eq.symm (k18.2 _ _ (by omega)))) | exact Eq.symm (Eq.trans p8e (Eq.symm (k18.2 _ _ (by omega)))) | omega)
        subst p20e
        refine z_getP (pc2 := 68) rfl rfl rfl rfl tx9.1 ?_
        intro p21 p21e p21k
        replace p21k : p21 = some (x9 + 2) := p21k; clear p21e; subst p21k
        refine z_iload_n (pc2 := 69) rfl rfl rfl ?_
        refine z_aconst_null (pc2 := 70) rfl rfl ?_
        refine z_aast (pc2 := 71) rfl rfl tx9.2.2.1 rfl (by omega) (by omega) (by omega) (fun b hb => by cases hb) (Or.inl rfl) ?_
        refine z_aload_n (pc2 := 72) rfl rfl rfl ?_
        refine z_aload_n (pc2 := 73) rfl rfl rfl ?_
        refine z_aload_n (pc2 := 74) rfl rfl rfl ?_
        refine z_getP (pc2 := 77) rfl rfl rfl rfl t1 ?_
        intro p22 p22e p22k
        clear p22k; replace p22e : p22 = some b7 := by rw [p22e]; first | exact (Eq.trans (Eq.trans p6e (Eq.symm (k18.2 _ _ (by omega)))) (congrFun (zU_row _ _ _ (by omega)) _).symm) | exact Eq.symm (Eq.trans (Eq.trans p6e (Eq.symm (k18.2 _ _ (by omega)))) (congrFun (zU_row _ _ _ (by omega)) _).symm) | (simp [zU]; first | done | exact (Eq.trans (Eq.trans p6e (Eq.symm (k18.2 _ _ (by omega)))) (congrFun (zU_row _ _ _ (by omega)) _).symm) | exact Eq.symm (Eq.trans (Eq.trans p6e (Eq.symm (k18.2 _ _ (by omega)))) (congrFun (zU_row _ _ _ (by omega)) _).symm) | omega)
        subst p22e
        refine z_getP (pc2 := 80) rfl rfl rfl rfl tb7.1 ?_
        intro p23 p23e p23k
        clear p23k; replace p23e : p23 = some x9 := by rw [p23e]; first | exact (Eq.trans (Eq.trans p8e (Eq.symm (k18.2 _ _ (by omega)))) (congrFun (zU_row _ _ _ (by omega)) _).symm) | exact Eq.symm (Eq.trans (Eq.trans p8e (Eq.symm (k18.2 _ _ (by omega)))) (congrFun (zU_row _ _ _ (by omega)) _).symm) | (simp [zU]; first | done | exact (Eq.trans (Eq.trans p8e (Eq.symm (k18.2 _ _ (by omega)))) (congrFun (zU_row _ _ _ (by omega)) _).symm) | exact Eq.symm (Eq.trans (Eq.trans p8e (Eq.symm (k18.2 _ _ (by omega)))) (congrFun (zU_row _ _ _ (by omega)) _).symm) | omega)
        subst p23e
        refine z_getP (pc2 := 83) rfl rfl rfl rfl tx9.1 ?_
        intro p24 p24e p24k
        replace p24k : p24 = some (x9 + 1) := p24k; clear p24e; subst p24k
        refine z_iconst (pc2 := 84) rfl rfl ?_
        refine z_callV (y2 := 90) (as := [_, _]) (rest := [_]) (pc2 := 87) rfl rfl rfl rfl tq12 rfl ?_
        refine c_Sort_move hn hC (by omega) (by omega) (by omega) tq12 (by omega) tx9.2.1 (by omega) (fun w25 I25 G25 f25 => ?_)
        show zB _ _ _ _ _ _ [_, _] _ _
        refine z_callV (y2 := 144) (as := [_]) (rest := []) (pc2 := 90) rfl rfl rfl rfl t1 rfl ?_
        refine z_inl ?_
        refine z_lv (lv2 := [(0, _), (1, _)]) ⟨rfl, rfl, trivial⟩ ?_
        refine z_aload_n (pc2 := 1) rfl rfl rfl ?_
        refine z_iconst (pc2 := 2) rfl rfl ?_
        refine z_putI (pc2 := 5) rfl rfl rfl rfl rfl rfl t1 (by omega) True.intro ?_
        refine z_iload_n (pc2 := 6) rfl rfl rfl ?_
        refine z_iret rfl rfl ?_
        show zB _ _ _ _ _ _ [_] _ _
        refine z_iret rfl rfl ?_
        exact hK _ _ _ _ _ _ _ (zCP_tr (m := n) (zCP_keep2 (n := n) iz18 hb7 k18 f18) (zCP_q ⟨zTn_rf, (zQi_u (zQi_t zQi_rf (fun c k hk => f25 c k (fun e => by unfold zIr at hk; omega))) (by unfold zIr; omega)), (zQp_u zQp_rf (by unfold zPr; omega))⟩ (zTm_rf _)) (by omega)) (by omega)
    ·
      refine z_iconst (pc2 := 11) rfl rfl ?_
      refine z_goto (pc2 := 15) rfl rfl ?_
      refine z_zret rfl rfl (by omega) ?_
      show zB _ _ _ _ _ _ [_] _ _
      refine z_if_eq (t := 27) (pc2 := 20) rfl rfl rfl (by omega) (fun c26 => by exfalso; omega) (fun c26 => ?_)
      refine z_aload_n (pc2 := 21) rfl rfl rfl ?_
      refine z_bipush (pc2 := 23) rfl rfl (by decide) ?_
      refine z_callV (y2 := 142) (as := [_]) (rest := []) (pc2 := 26) rfl rfl rfl rfl t1 rfl ?_
      refine z_inl ?_
      refine z_lv (lv2 := [(0, _), (1, _)]) ⟨rfl, rfl, trivial⟩ ?_
      refine z_aload_n (pc2 := 1) rfl rfl rfl ?_
      refine z_iload_n (pc2 := 2) rfl rfl rfl ?_
      refine z_putI (pc2 := 5) rfl rfl rfl rfl rfl rfl t1 (by omega) True.intro ?_
      refine z_iload_n (pc2 := 6) rfl rfl rfl ?_
      refine z_iret rfl rfl ?_
      show zB _ _ _ _ _ _ [_] _ _
      refine z_iret rfl rfl ?_
      exact hK _ _ _ _ _ _ _ (zCP_q ⟨zTn_rf, (zQi_u zQi_rf (by unfold zIr; omega)), zQp_rf⟩ (zTm_rf _)) (by omega)
  ·
    refine z_aload_n (pc2 := 8) rfl rfl rfl ?_
    refine z_iconst (pc2 := 9) rfl rfl ?_
    refine z_callV (y2 := 142) (as := [_]) (rest := []) (pc2 := 12) rfl rfl rfl rfl t1 rfl ?_
    refine z_inl ?_
    refine z_lv (lv2 := [(0, _), (1, _)]) ⟨rfl, rfl, trivial⟩ ?_
    refine z_aload_n (pc2 := 1) rfl rfl rfl ?_
    refine z_iload_n (pc2 := 2) rfl rfl rfl ?_
    refine z_putI (pc2 := 5) rfl rfl rfl rfl rfl rfl t1 (by omega) True.intro ?_
    refine z_iload_n (pc2 := 6) rfl rfl rfl ?_
    refine z_iret rfl rfl ?_
    show zB _ _ _ _ _ _ [_] _ _
    refine z_iret rfl rfl ?_
    exact hK _ _ _ _ _ _ _ (zCP_q ⟨zTn_rf, (zQi_u zQi_rf (by unfold zIr; omega)), zQp_rf⟩ (zTm_rf _)) (by omega)
set_option maxHeartbeats 8000000 in
theorem c_TypeRoom_take {L : Nat} {xs : Nat → Int32} {n sl : Nat} {T : Nat → zT} {I : Nat → Nat → Int} {P : Nat → Nat → Option Nat} {G : Nat → Nat → Int} {K : List zV → zH → Prop} {a c d e : Int} (hn : 90 ≤ n) (hC : ∀ a, 1 ≤ a → a ≤ 55 → T a = zFixC a) (ha : zR a) (hc : zR c) (hd : zR d) (he : zR e) (hcr : zCR T I P) (hK : ∀ e n2 sl2 T2 I2 P2 G2, zCP n T T2 I I2 P P2 → (n ≤ n2 ∧ n2 ≤ n + 1 ∧ sl2 ≤ sl + 6) → K [.inl e] (n2, sl2, T2, I2, P2, G2)) : zX zMd L xs 118 [.inr (.inl (some 1)), .inl a, .inl c, .inl d, .inl e] (n, sl, T, I, P, G) K := by
  have t1 : T 1 = (1, 11, [1]) := hC 1 (by decide) (by decide)
  refine z_inl ?_
  refine z_lv (lv2 := [(0, _), (1, _), (2, _), (3, _), (4, _)]) ⟨rfl, rfl, rfl, rfl, rfl, trivial⟩ ?_
  refine z_iload_n (pc2 := 1) rfl rfl rfl ?_
  refine z_callS (y2 := 153) (as := [_]) (rest := []) (pc2 := 4) rfl rfl rfl rfl ?_
  refine z_inl ?_
  refine z_lv (lv2 := [(0, _)]) ⟨rfl, trivial⟩ ?_
  refine z_iload_n (pc2 := 1) rfl rfl rfl ?_
  refine z_iconst (pc2 := 2) rfl rfl ?_
  refine z_bipush (pc2 := 4) rfl rfl (by decide) ?_
  refine z_callS (y2 := 155) (as := [_, _, _]) (rest := []) (pc2 := 7) rfl rfl rfl rfl ?_
  refine c_TypeRoom_isOutside (by omega) (by omega) (by omega) (fun e1 e1a e1b e1c => ?_)
  show zB _ _ _ _ _ _ [_] _ _
  refine z_zret rfl rfl (by omega) ?_
  show zB _ _ _ _ _ _ [_] _ _
  refine z_if_ne (t := 21) (pc2 := 7) rfl rfl rfl (by omega) (fun c2 => ?_) (fun c2 => ?_)
  ·
    refine z_aload_n (pc2 := 22) rfl rfl rfl ?_
    refine z_iconst (pc2 := 23) rfl rfl ?_
    refine z_callV (y2 := 142) (as := [_]) (rest := []) (pc2 := 26) rfl rfl rfl rfl t1 rfl ?_
    refine z_inl ?_
    refine z_lv (lv2 := [(0, _), (1, _)]) ⟨rfl, rfl, trivial⟩ ?_
    refine z_aload_n (pc2 := 1) rfl rfl rfl ?_
    refine z_iload_n (pc2 := 2) rfl rfl rfl ?_
    refine z_putI (pc2 := 5) rfl rfl rfl rfl rfl rfl t1 (by omega) True.intro ?_
    refine z_iload_n (pc2 := 6) rfl rfl rfl ?_
    refine z_iret rfl rfl ?_
    show zB _ _ _ _ _ _ [_] _ _
    refine z_iret rfl rfl ?_
    exact hK _ _ _ _ _ _ _ (zCP_q ⟨zTn_rf, (zQi_u zQi_rf (by unfold zIr; omega)), zQp_rf⟩ (zTm_rf _)) (by omega)
  ·
    refine z_iload_n (pc2 := 8) rfl rfl rfl ?_
    refine z_callS (y2 := 151) (as := [_]) (rest := []) (pc2 := 11) rfl rfl rfl rfl ?_
    refine z_inl ?_
    refine z_lv (lv2 := [(0, _)]) ⟨rfl, trivial⟩ ?_
    refine z_iload_n (pc2 := 1) rfl rfl rfl ?_
    refine z_iconst (pc2 := 2) rfl rfl ?_
    refine z_iconst (pc2 := 3) rfl rfl ?_
    refine z_callS (y2 := 155) (as := [_, _, _]) (rest := []) (pc2 := 6) rfl rfl rfl rfl ?_
    refine c_TypeRoom_isOutside (by omega) (by omega) (by omega) (fun e3 e3a e3b e3c => ?_)
    show zB _ _ _ _ _ _ [_] _ _
    refine z_zret rfl rfl (by omega) ?_
    show zB _ _ _ _ _ _ [_] _ _
    refine z_if_ne (t := 21) (pc2 := 14) rfl rfl rfl (by omega) (fun c4 => ?_) (fun c4 => ?_)
    ·
      refine z_aload_n (pc2 := 22) rfl rfl rfl ?_
      refine z_iconst (pc2 := 23) rfl rfl ?_
      refine z_callV (y2 := 142) (as := [_]) (rest := []) (pc2 := 26) rfl rfl rfl rfl t1 rfl ?_
      refine z_inl ?_
      refine z_lv (lv2 := [(0, _), (1, _)]) ⟨rfl, rfl, trivial⟩ ?_
      refine z_aload_n (pc2 := 1) rfl rfl rfl ?_
      refine z_iload_n (pc2 := 2) rfl rfl rfl ?_
      refine z_putI (pc2 := 5) rfl rfl rfl rfl rfl rfl t1 (by omega) True.intro ?_
      refine z_iload_n (pc2 := 6) rfl rfl rfl ?_
      refine z_iret rfl rfl ?_
      show zB _ _ _ _ _ _ [_] _ _
      refine z_iret rfl rfl ?_
      exact hK _ _ _ _ _ _ _ (zCP_q ⟨zTn_rf, (zQi_u zQi_rf (by unfold zIr; omega)), zQp_rf⟩ (zTm_rf _)) (by omega)
    ·
      refine z_iload_n (pc2 := 15) rfl rfl rfl ?_
      refine z_callS (y2 := 154) (as := [_]) (rest := []) (pc2 := 18) rfl rfl rfl rfl ?_
      refine z_inl ?_
      refine z_lv (lv2 := [(0, _)]) ⟨rfl, trivial⟩ ?_
      refine z_iload_n (pc2 := 1) rfl rfl rfl ?_
      refine z_iconst (pc2 := 2) rfl rfl ?_
      refine z_iconst (pc2 := 3) rfl rfl ?_
      refine z_callS (y2 := 155) (as := [_, _, _]) (rest := []) (pc2 := 6) rfl rfl rfl rfl ?_
      refine c_TypeRoom_isOutside (by omega) (by omega) (by omega) (fun e5 e5a e5b e5c => ?_)
      show zB _ _ _ _ _ _ [_] _ _
      refine z_zret rfl rfl (by omega) ?_
      show zB _ _ _ _ _ _ [_] _ _
      refine z_if_eq (t := 27) (pc2 := 21) rfl rfl rfl (by omega) (fun c6 => ?_) (fun c6 => ?_)
      ·
        refine z_aload_n (pc2 := 28) rfl rfl rfl ?_
        refine z_getP (pc2 := 31) rfl rfl rfl rfl t1 ?_
        intro p7 p7e p7k
        obtain ⟨b8, rfl, hb8⟩ := zHere p7k
        have tb8 := zRm_t hC hb8
        refine z_getP (pc2 := 34) rfl rfl rfl rfl tb8.1 ?_
        intro p9 p9e p9k
        obtain ⟨x10, rfl, hx10⟩ := zFloorOf p9k
        have ix10 : x10 = 23 ∨ x10 = 30 ∨ x10 = 42 ∨ x10 = 49 := by omega
        have tx10 := zFl_t hC ix10
        refine z_getP (pc2 := 37) rfl rfl rfl rfl tx10.1 ?_
        intro p11 p11e p11k
        replace p11k : p11 = some (x10 + 2) := p11k; clear p11e; subst p11k
        refine z_iload_n (pc2 := 38) rfl rfl rfl ?_
        refine z_aald (pc2 := 39) rfl rfl tx10.2.2.1 rfl (by omega) (by omega) (by omega) ?_
        intro p12 p12e p12k
        rcases p12k with rfl | ⟨q13, rfl, q139, d14, n15, tq13, q13c, q13b⟩
        ·
          refine z_ifnull (t := 49) (pc2 := 42) rfl rfl rfl (fun _ => ?_) (fun a h => by cases h)
          refine z_aload_n (pc2 := 50) rfl rfl rfl ?_
          refine z_callV (y2 := 148) (as := []) (rest := []) (pc2 := 53) rfl rfl rfl rfl t1 rfl ?_
          refine z_inl ?_
          refine z_lv (lv2 := [(0, _)]) ⟨rfl, trivial⟩ ?_
          refine z_aload_n (pc2 := 1) rfl rfl rfl ?_
          refine z_getI (pc2 := 4) 0 rfl rfl rfl rfl rfl t1 ?_
          intro v16 e16 r16 k16
          clear k16
          clear e16
          refine z_sipush (pc2 := 7) rfl rfl (by decide) ?_
          refine z_icmp_lt (t := 14) (pc2 := 10) rfl rfl rfl (by omega) (by omega) (fun c17 => ?_) (fun c17 => ?_)
          ·
            refine z_iconst (pc2 := 15) rfl rfl ?_
            refine z_zret rfl rfl (by omega) ?_
            show zB _ _ _ _ _ _ [_] _ _
            refine z_if_eq (t := 63) (pc2 := 56) rfl rfl rfl (by omega) (fun c18 => ?_) (fun c18 => by exfalso; omega)
            refine z_aload_n (pc2 := 64) rfl rfl rfl ?_
            refine z_getP (pc2 := 67) rfl rfl rfl rfl t1 ?_
            intro p19 p19e p19k
            clear p19k; replace p19e : p19 = some b8 := by rw [p19e]; first | exact p7e | exact Eq.symm p7e | (simp [zU]; first | done | exact p7e | exact Eq.symm p7e | omega)
            subst p19e
            refine z_getP (pc2 := 70) rfl rfl rfl rfl tb8.1 ?_
            intro p20 p20e p20k
            replace p20k : p20 = some (b8 + 1) := p20k; clear p20e; subst p20k
            refine z_iload_n (pc2 := 71) rfl rfl rfl ?_
            refine z_aald (pc2 := 72) rfl rfl tb8.2.1 rfl (by omega) (by omega) (by omega) ?_
            intro p21 p21e p21k
            rcases p21k with rfl | ⟨q22, rfl, q229, n23, tq22, q22b⟩
            ·
              refine z_astore (lv2 := [(5, _), (0, _), (1, _), (2, _), (3, _), (4, _)]) (pc2 := 74) rfl rfl rfl rfl ?_
              refine z_aload_n (pc2 := 75) rfl rfl rfl ?_
              refine z_getP (pc2 := 78) rfl rfl rfl rfl t1 ?_
              intro p24 p24e p24k
              clear p24k; replace p24e : p24 = some b8 := by rw [p24e]; first | exact p7e | exact Eq.symm p7e | (simp [zU]; first | done | exact p7e | exact Eq.symm p7e | omega)
              subst p24e
              refine z_iload_n (pc2 := 79) rfl rfl rfl ?_
              refine z_iload_n (pc2 := 80) rfl rfl rfl ?_
              refine z_iload (pc2 := 82) rfl rfl rfl ?_
              refine z_callV (y2 := 79) (as := [_, _, _]) (rest := []) (pc2 := 85) rfl rfl rfl rfl tb8.1 rfl ?_
              refine z_inl ?_
              refine z_lv (lv2 := [(0, _), (1, _), (2, _), (3, _)]) ⟨rfl, rfl, rfl, rfl, trivial⟩ ?_
              refine z_aload_n (pc2 := 1) rfl rfl rfl ?_
              refine z_getP (pc2 := 4) rfl rfl rfl rfl tb8.1 ?_
              intro p25 p25e p25k
              replace p25k : p25 = some (b8 + 1) := p25k; clear p25e; subst p25k
              refine z_iload_n (pc2 := 5) rfl rfl rfl ?_
              refine z_aald (pc2 := 6) rfl rfl tb8.2.1 rfl (by omega) (by omega) (by omega) ?_
              intro p26 p26e p26k
              clear p26k; replace p26e : p26 = none := by rw [p26e]; first | exact p21e | exact Eq.symm p21e | (simp [zU]; first | done | exact p21e | exact Eq.symm p21e | omega)
              subst p26e
              refine z_ifnonnull (t := 14) (pc2 := 9) rfl rfl rfl (fun a h => by cases h) (fun _ => ?_)
              refine z_bipush (pc2 := 11) rfl rfl (by decide) ?_
              refine z_goto (pc2 := 25) rfl rfl ?_
              refine z_iret rfl rfl ?_
              show zB _ _ _ _ _ _ [_] _ _
              refine z_istore (lv2 := [(6, _), (5, _), (0, _), (1, _), (2, _), (3, _), (4, _)]) (pc2 := 87) rfl rfl rfl rfl ?_
              refine z_aload (pc2 := 89) rfl rfl rfl ?_
              refine z_ifnull (t := 97) (pc2 := 92) rfl rfl rfl (fun _ => ?_) (fun a h => by cases h)
              refine z_aload_n (pc2 := 98) rfl rfl rfl ?_
              refine z_iload (pc2 := 100) rfl rfl rfl ?_
              refine z_callV (y2 := 143) (as := [_]) (rest := []) (pc2 := 103) rfl rfl rfl rfl t1 rfl ?_
              refine z_inl ?_
              refine z_lv (lv2 := [(0, _), (1, _)]) ⟨rfl, rfl, trivial⟩ ?_
              refine z_aload_n (pc2 := 1) rfl rfl rfl ?_
              refine z_dup (pc2 := 2) rfl rfl rfl ?_
              refine z_getI (pc2 := 5) 0 rfl rfl rfl rfl rfl t1 ?_
              intro v27 e27 r27 k27
              clear k27
              clear e27
              refine z_iconst (pc2 := 6) rfl rfl ?_
              refine z_iadd (pc2 := 7) rfl rfl ?_
              refine z_putI_any (pc2 := 10) rfl rfl rfl rfl rfl rfl t1 (fun _ _ => True.intro) (fun u28 u28r => ?_)
              refine z_aload_n (pc2 := 11) rfl rfl rfl ?_
              refine z_iload_n (pc2 := 12) rfl rfl rfl ?_
              refine z_putI (pc2 := 15) rfl rfl rfl rfl rfl rfl t1 (by omega) True.intro ?_
              refine z_iload_n (pc2 := 16) rfl rfl rfl ?_
              refine z_iret rfl rfl ?_
              show zB _ _ _ _ _ _ [_] _ _
              refine z_iret rfl rfl ?_
              exact hK _ _ _ _ _ _ _ (zCP_q ⟨zTn_rf, (zQi_u (zQi_u zQi_rf (by unfold zIr; omega)) (by unfold zIr; omega)), zQp_rf⟩ (zTm_rf _)) (by omega)
            ·
              replace tq22 : _ = ((1, 3, [n23]) : zT) := tq22
              refine zB_le tq22 trivial (fun q22l => ?_)
              refine z_astore (lv2 := [(5, _), (0, _), (1, _), (2, _), (3, _), (4, _)]) (pc2 := 74) rfl rfl rfl rfl ?_
              refine z_aload_n (pc2 := 75) rfl rfl rfl ?_
              refine z_getP (pc2 := 78) rfl rfl rfl rfl t1 ?_
              intro p29 p29e p29k
              clear p29k; replace p29e : p29 = some b8 := by rw [p29e]; first | exact p7e | exact Eq.symm p7e | (simp [zU]; first | done | exact p7e | exact Eq.symm p7e | omega)
              subst p29e
              refine z_iload_n (pc2 := 79) rfl rfl rfl ?_
              refine z_iload_n (pc2 := 80) rfl rfl rfl ?_
              refine z_iload (pc2 := 82) rfl rfl rfl ?_
              refine z_callV (y2 := 79) (as := [_, _, _]) (rest := []) (pc2 := 85) rfl rfl rfl rfl tb8.1 rfl ?_
              refine z_inl ?_
              refine z_lv (lv2 := [(0, _), (1, _), (2, _), (3, _)]) ⟨rfl, rfl, rfl, rfl, trivial⟩ ?_
              refine z_aload_n (pc2 := 1) rfl rfl rfl ?_
              refine z_getP (pc2 := 4) rfl rfl rfl rfl tb8.1 ?_
              intro p30 p30e p30k
              replace p30k : p30 = some (b8 + 1) := p30k; clear p30e; subst p30k
              refine z_iload_n (pc2 := 5) rfl rfl rfl ?_
              refine z_aald (pc2 := 6) rfl rfl tb8.2.1 rfl (by omega) (by omega) (by omega) ?_
              intro p31 p31e p31k
              clear p31k; replace p31e : p31 = some q22 := by rw [p31e]; first | exact p21e | exact Eq.symm p21e | (simp [zU]; first | done | exact p21e | exact Eq.symm p21e | omega)
              subst p31e
              refine z_ifnonnull (t := 14) (pc2 := 9) rfl rfl rfl (fun _ _ => ?_) (fun h => by cases h)
              refine z_aload_n (pc2 := 15) rfl rfl rfl ?_
              refine z_getP (pc2 := 18) rfl rfl rfl rfl tb8.1 ?_
              intro p32 p32e p32k
              replace p32k : p32 = some (b8 + 1) := p32k; clear p32e; subst p32k
              refine z_iload_n (pc2 := 19) rfl rfl rfl ?_
              refine z_aald (pc2 := 20) rfl rfl tb8.2.1 rfl (by omega) (by omega) (by omega) ?_
              intro p33 p33e p33k
              clear p33k; replace p33e : p33 = some q22 := by rw [p33e]; first | exact p21e | exact Eq.symm p21e | (simp [zU]; first | done | exact p21e | exact Eq.symm p21e | omega)
              subst p33e
              refine z_iload_n (pc2 := 21) rfl rfl rfl ?_
              refine z_iload_n (pc2 := 22) rfl rfl rfl ?_
              refine z_callV (y2 := 44) (as := [_, _]) (rest := []) (pc2 := 25) rfl rfl rfl rfl tq22 rfl ?_
              refine c_Fount_boxOf hn hC (by omega) (by omega) (by omega) tq22 (by omega) (fun w34 w34r w34v => ?_)
              show zB _ _ _ _ _ _ [_] _ _
              refine z_iret rfl rfl ?_
              show zB _ _ _ _ _ _ [_] _ _
              refine z_istore (lv2 := [(6, _), (5, _), (0, _), (1, _), (2, _), (3, _), (4, _)]) (pc2 := 87) rfl rfl rfl rfl ?_
              refine z_aload (pc2 := 89) rfl rfl rfl ?_
              refine z_ifnull (t := 97) (pc2 := 92) rfl rfl rfl (fun h => by cases h) (fun _ _ => ?_)
              refine z_iload (pc2 := 94) rfl rfl rfl ?_
              refine z_if_ge (t := 104) (pc2 := 97) rfl rfl rfl (by omega) (fun c35 => ?_) (fun c35 => ?_)
              ·
                refine z_aload_n (pc2 := 105) rfl rfl rfl ?_
                refine z_getP (pc2 := 108) rfl rfl rfl rfl t1 ?_
                intro p36 p36e p36k
                clear p36k; replace p36e : p36 = some b8 := by rw [p36e]; first | exact p7e | exact Eq.symm p7e | (simp [zU]; first | done | exact p7e | exact Eq.symm p7e | omega)
                subst p36e
                refine z_getP (pc2 := 111) rfl rfl rfl rfl tb8.1 ?_
                intro p37 p37e p37k
                clear p37k; replace p37e : p37 = some x10 := by rw [p37e]; first | exact p9e | exact Eq.symm p9e | (simp [zU]; first | done | exact p9e | exact Eq.symm p9e | omega)
                subst p37e
                refine z_getP (pc2 := 114) rfl rfl rfl rfl tx10.1 ?_
                intro p38 p38e p38k
                replace p38k : p38 = some (x10 + 1) := p38k; clear p38e; subst p38k
                refine z_iload (pc2 := 116) rfl rfl rfl ?_
                refine z_iald (pc2 := 117) rfl rfl tx10.2.1 (by omega) (by omega) (by omega) ?_
                intro v39 e39 r39 k39
                clear k39
                clear e39
                refine z_if_gt (t := 127) (pc2 := 120) rfl rfl rfl (by omega) (fun c40 => ?_) (fun c40 => ?_)
                ·
                  refine z_aload_n (pc2 := 128) rfl rfl rfl ?_
                  refine z_getP (pc2 := 131) rfl rfl rfl rfl t1 ?_
                  intro p41 p41e p41k
                  clear p41k; replace p41e : p41 = some b8 := by rw [p41e]; first | exact p7e | exact Eq.symm p7e | (simp [zU]; first | done | exact p7e | exact Eq.symm p7e | omega)
                  subst p41e
                  refine z_callV (y2 := 77) (as := []) (rest := []) (pc2 := 134) rfl rfl rfl rfl tb8.1 rfl ?_
                  have c42 := hcr
                  obtain ⟨z42, hz42, hd42⟩ := zCR_z c42 hb8 (Eq.symm p9e)
                  have iz42 : z42 = 23 ∨ z42 = 30 ∨ z42 = 42 ∨ z42 = 49 := by omega
                  refine c_Room_keep hn hC hb8 ix10 iz42 (by omega) (c42.2.2 _ ix10) (Eq.symm p9e) hz42 (fun I42 P42 G42 k42 f42 => ?_)
                  show zB _ _ _ _ _ _ [] _ _
                  refine z_aload_n (pc2 := 135) rfl rfl rfl ?_
                  refine z_getP (pc2 := 138) rfl rfl rfl rfl t1 ?_
                  intro p43 p43e p43k
                  clear p43k; replace p43e : p43 = some b8 := by rw [p43e]; first | exact (Eq.trans p7e (Eq.symm (k42.2 _ _ (by omega)))) | exact Eq.symm (Eq.trans p7e (Eq.symm (k42.2 _ _ (by omega)))) | (simp [zU]; first | done | exact (Eq.trans p7e (Eq.symm (k42.2 _ _ (by omega)))) | exact Eq.symm (Eq.trans p7e (Eq.symm (k42.2 _ _ (by omega)))) | omega)
                  subst p43e
                  refine z_getP (pc2 := 141) rfl rfl rfl rfl tb8.1 ?_
                  intro p44 p44e p44k
                  clear p44k; replace p44e : p44 = some x10 := by rw [p44e]; first | exact (Eq.trans p9e (Eq.symm (k42.2 _ _ (by omega)))) | exact Eq.symm (Eq.trans p9e (Eq.symm (k42.2 _ _ (by omega)))) | (simp [zU]; first | done | exact (Eq.trans p9e (Eq.symm (k42.2 _ _ (by omega)))) | exact Eq.symm (Eq.trans p9e (Eq.symm (k42.2 _ _ (by omega)))) | omega)
                  subst p44e
                  refine z_getP (pc2 := 144) rfl rfl rfl rfl tx10.1 ?_
                  intro p45 p45e p45k
                  replace p45k : p45 = some (x10 + 1) := p45k; clear p45e; subst p45k
                  refine z_iload (pc2 := 146) rfl rfl rfl ?_
                  refine z_dup2 (pc2 := 147) rfl rfl rfl rfl ?_
                  refine z_iald (pc2 := 148) rfl rfl tx10.2.1 (by omega) (by omega) (by omega) ?_
                  intro v46 e46 r46 k46
                  clear k46
                  clear e46
                  refine z_iconst (pc2 := 149) rfl rfl ?_
                  refine z_isub (pc2 := 150) rfl rfl ?_
                  refine z_iast_any (pc2 := 151) rfl rfl tx10.2.1 (by omega) (by omega) (by omega) (fun _ _ => True.intro) (fun u47 u47r => ?_)
                  refine z_iload_n (pc2 := 152) rfl rfl rfl ?_
                  refine z_iconst (pc2 := 153) rfl rfl ?_
                  refine z_icmp_eq (t := 161) (pc2 := 156) rfl rfl rfl (by omega) (by omega) (fun c48 => ?_) (fun c48 => ?_)
                  ·
                    refine z_iconst (pc2 := 162) rfl rfl ?_
                    refine z_goto (pc2 := 166) rfl rfl ?_
                    refine z_istore (lv2 := [(7, _), (6, _), (5, _), (0, _), (1, _), (2, _), (3, _), (4, _)]) (pc2 := 168) rfl rfl rfl rfl ?_
                    refine z_aload_n (pc2 := 169) rfl rfl rfl ?_
                    refine z_getP (pc2 := 172) rfl rfl rfl rfl t1 ?_
                    intro p49 p49e p49k
                    clear p49k; replace p49e : p49 = some b8 := by rw [p49e]; first | exact (Eq.trans p7e (Eq.symm (k42.2 _ _ (by omega)))) | exact Eq.symm (Eq.trans p7e (Eq.symm (k42.2 _ _ (by omega)))) | (simp [zU]; first | done | exact (Eq.trans p7e (Eq.symm (k42.2 _ _ (by omega)))) | exact Eq.symm (Eq.trans p7e (Eq.symm (k42.2 _ _ (by omega)))) | omega)
                    subst p49e
                    refine z_getP (pc2 := 175) rfl rfl rfl rfl tb8.1 ?_
                    intro p50 p50e p50k
                    clear p50k; replace p50e : p50 = some x10 := by rw [p50e]; first | exact (Eq.trans p9e (Eq.symm (k42.2 _ _ (by omega)))) | exact Eq.symm (Eq.trans p9e (Eq.symm (k42.2 _ _ (by omega)))) | (simp [zU]; first | done | exact (Eq.trans p9e (Eq.symm (k42.2 _ _ (by omega)))) | exact Eq.symm (Eq.trans p9e (Eq.symm (k42.2 _ _ (by omega)))) | omega)
                    subst p50e
                    refine z_getP (pc2 := 178) rfl rfl rfl rfl tx10.1 ?_
                    intro p51 p51e p51k
                    replace p51k : p51 = some (x10 + 2) := p51k; clear p51e; subst p51k
                    refine z_iload_n (pc2 := 179) rfl rfl rfl ?_
                    refine z_new (c := 9) (s := 6) (pc2 := 182) rfl rfl rfl rfl (fun _ => True.intro) (fun T52 I52 P52 G52 w52 => ?_)
                    refine z_dup (pc2 := 183) rfl rfl rfl ?_
                    refine z_iload_n (pc2 := 184) rfl rfl rfl ?_
                    refine z_aload (pc2 := 186) rfl rfl rfl ?_
                    refine z_iload (pc2 := 188) rfl rfl rfl ?_
                    refine z_if_eq (t := 195) (pc2 := 191) rfl rfl rfl (by omega) (fun c53 => by exfalso; omega) (fun c53 => ?_)
                    refine z_iconst (pc2 := 192) rfl rfl ?_
                    refine z_goto (pc2 := 197) rfl rfl ?_
                    refine z_iconst (pc2 := 198) rfl rfl ?_
                    refine z_callP (y2 := 83) (as := [_, _, _, _]) (rest := [_, _, _]) (pc2 := 201) rfl rfl rfl rfl ?_
                    refine z_inl ?_
                    refine z_lv (lv2 := [(0, _), (1, _), (2, _), (3, _), (4, _)]) ⟨rfl, rfl, rfl, rfl, rfl, trivial⟩ ?_
                    refine z_aload_n (pc2 := 1) rfl rfl rfl ?_
                    refine z_obj (pc2 := 4) rfl rfl rfl rfl ?_
                    refine z_aload_n (pc2 := 5) rfl rfl rfl ?_
                    refine z_iload_n (pc2 := 6) rfl rfl rfl ?_
                    refine z_putI (pc2 := 9) rfl rfl rfl rfl rfl rfl w52.2.1 (by omega) True.intro ?_
                    refine z_aload_n (pc2 := 10) rfl rfl rfl ?_
                    refine z_aload_n (pc2 := 11) rfl rfl rfl ?_
                    refine z_putP (pc2 := 14) rfl rfl rfl rfl (by first | exact z_fitO _ _ | exact z_fitA _ _) rfl w52.2.1 True.intro ?_
                    refine z_aload_n (pc2 := 15) rfl rfl rfl ?_
                    refine z_iload_n (pc2 := 16) rfl rfl rfl ?_
                    refine z_putI (pc2 := 19) rfl rfl rfl rfl rfl rfl w52.2.1 (by omega) True.intro ?_
                    refine z_aload_n (pc2 := 20) rfl rfl rfl ?_
                    refine z_iload (pc2 := 22) rfl rfl rfl ?_
                    refine z_putI (pc2 := 25) rfl rfl rfl rfl rfl rfl w52.2.1 (by omega) True.intro ?_
                    refine z_aload_n (pc2 := 26) rfl rfl rfl ?_
                    refine z_aconst_null (pc2 := 27) rfl rfl ?_
                    refine z_putP (pc2 := 30) rfl rfl rfl rfl (by first | exact z_fitO _ _ | exact z_fitA _ _) rfl w52.2.1 True.intro ?_
                    refine z_aload_n (pc2 := 31) rfl rfl rfl ?_
                    refine z_aconst_null (pc2 := 32) rfl rfl ?_
                    refine z_putP (pc2 := 35) rfl rfl rfl rfl (by first | exact z_fitO _ _ | exact z_fitA _ _) rfl w52.2.1 True.intro ?_
                    refine z_ret rfl rfl ?_
                    show zB _ _ _ _ _ _ [_, _, _] _ _
                    refine zB_rtO (g := 1) (gs := [d, n23]) w52.2.1 (zSort_I (cd := (0)) (by simp [zU]) (by simp [zU]) (by omega)) (zSort_P (q := q22) (by simp [zU]) (by omega) ((w52.1 _ (by omega)).1.trans tq22) (by omega) (by simp [zU]) (by simp [zU]) (by omega)) (fun T54 r54 t54 m54 => ?_)
                    refine z_aast (pc2 := 202) rfl rfl ((r54 _ (by omega)).trans ((w52.1 _ (by omega)).1.trans tx10.2.2.1)) rfl (by omega) (by omega) (by omega) (fun b hb => by cases hb; rw [t54]; exact ⟨_, rfl, rfl⟩) (Or.inr ⟨_, rfl, by omega, _, _, t54, by omega, by omega⟩) ?_
                    refine z_aload_n (pc2 := 203) rfl rfl rfl ?_
                    refine z_iconst (pc2 := 204) rfl rfl ?_
                    refine z_callV (y2 := 144) (as := [_]) (rest := []) (pc2 := 207) rfl rfl rfl rfl ((r54 _ (by omega)).trans ((w52.1 _ (by omega)).1.trans t1)) rfl ?_
                    refine z_inl ?_
                    refine z_lv (lv2 := [(0, _), (1, _)]) ⟨rfl, rfl, trivial⟩ ?_
                    refine z_aload_n (pc2 := 1) rfl rfl rfl ?_
                    refine z_iconst (pc2 := 2) rfl rfl ?_
                    refine z_putI (pc2 := 5) rfl rfl rfl rfl rfl rfl ((r54 _ (by omega)).trans ((w52.1 _ (by omega)).1.trans t1)) (by omega) True.intro ?_
                    refine z_iload_n (pc2 := 6) rfl rfl rfl ?_
                    refine z_iret rfl rfl ?_
                    show zB _ _ _ _ _ _ [_] _ _
                    refine z_iret rfl rfl ?_
                    exact hK _ _ _ _ _ _ _ (zCP_tr (m := n) (zCP_keep2 (n := n) iz42 hb8 k42 f42) (zCP_q ⟨(zTn_r (zTn_n zTn_rf w52 (by omega)) r54 (by omega)), (zQi_u (zQi_u (zQi_u (zQi_u (zQi_n (zQi_u zQi_rf (by unfold zIr; omega)) w52 (by omega)) (by unfold zIr; omega)) (by unfold zIr; omega)) (by unfold zIr; omega)) (by unfold zIr; omega)), (zQp_u (zQp_u (zQp_u (zQp_u (zQp_n zQp_rf w52 (by omega)) (by unfold zPr; omega)) (by unfold zPr; omega)) (by unfold zPr; omega)) (by unfold zPr; omega))⟩ (zTm_tr (zTm_tr (zTm_rf _) (zTk_m w52.2.2.2.2)) m54)) (by omega)) (by omega)
                  ·
                    refine z_iload_n (pc2 := 157) rfl rfl rfl ?_
                    refine z_iconst (pc2 := 158) rfl rfl ?_
                    refine z_icmp_ne (t := 165) (pc2 := 161) rfl rfl rfl (by omega) (by omega) (fun c55 => ?_) (fun c55 => ?_)
                    ·
                      refine z_iconst (pc2 := 166) rfl rfl ?_
                      refine z_istore (lv2 := [(7, _), (6, _), (5, _), (0, _), (1, _), (2, _), (3, _), (4, _)]) (pc2 := 168) rfl rfl rfl rfl ?_
                      refine z_aload_n (pc2 := 169) rfl rfl rfl ?_
                      refine z_getP (pc2 := 172) rfl rfl rfl rfl t1 ?_
                      intro p56 p56e p56k
                      clear p56k; replace p56e : p56 = some b8 := by rw [p56e]; first | exact (Eq.trans p7e (Eq.symm (k42.2 _ _ (by omega)))) | exact Eq.symm (Eq.trans p7e (Eq.symm (k42.2 _ _ (by omega)))) | (simp [zU]; first | done | exact (Eq.trans p7e (Eq.symm (k42.2 _ _ (by omega)))) | exact Eq.symm (Eq.trans p7e (Eq.symm (k42.2 _ _ (by omega)))) | omega)
                      subst p56e
                      refine z_getP (pc2 := 175) rfl rfl rfl rfl tb8.1 ?_
                      intro p57 p57e p57k
                      clear p57k; replace p57e : p57 = some x10 := by rw [p57e]; first | exact (Eq.trans p9e (Eq.symm (k42.2 _ _ (by omega)))) | exact Eq.symm (Eq.trans p9e (Eq.symm (k42.2 _ _ (by omega)))) | (simp [zU]; first | done | exact (Eq.trans p9e (Eq.symm (k42.2 _ _ (by omega)))) | exact Eq.symm (Eq.trans p9e (Eq.symm (k42.2 _ _ (by omega)))) | omega)
                      subst p57e
                      refine z_getP (pc2 := 178) rfl rfl rfl rfl tx10.1 ?_
                      intro p58 p58e p58k
                      replace p58k : p58 = some (x10 + 2) := p58k; clear p58e; subst p58k
                      refine z_iload_n (pc2 := 179) rfl rfl rfl ?_
                      refine z_new (c := 9) (s := 6) (pc2 := 182) rfl rfl rfl rfl (fun _ => True.intro) (fun T59 I59 P59 G59 w59 => ?_)
                      refine z_dup (pc2 := 183) rfl rfl rfl ?_
                      refine z_iload_n (pc2 := 184) rfl rfl rfl ?_
                      refine z_aload (pc2 := 186) rfl rfl rfl ?_
                      refine z_iload (pc2 := 188) rfl rfl rfl ?_
                      refine z_if_eq (t := 195) (pc2 := 191) rfl rfl rfl (by omega) (fun c60 => ?_) (fun c60 => by exfalso; omega)
                      refine z_iload (pc2 := 197) rfl rfl rfl ?_
                      refine z_iconst (pc2 := 198) rfl rfl ?_
                      refine z_callP (y2 := 83) (as := [_, _, _, _]) (rest := [_, _, _]) (pc2 := 201) rfl rfl rfl rfl ?_
                      refine z_inl ?_
                      refine z_lv (lv2 := [(0, _), (1, _), (2, _), (3, _), (4, _)]) ⟨rfl, rfl, rfl, rfl, rfl, trivial⟩ ?_
                      refine z_aload_n (pc2 := 1) rfl rfl rfl ?_
                      refine z_obj (pc2 := 4) rfl rfl rfl rfl ?_
                      refine z_aload_n (pc2 := 5) rfl rfl rfl ?_
                      refine z_iload_n (pc2 := 6) rfl rfl rfl ?_
                      refine z_putI (pc2 := 9) rfl rfl rfl rfl rfl rfl w59.2.1 (by omega) True.intro ?_
                      refine z_aload_n (pc2 := 10) rfl rfl rfl ?_
                      refine z_aload_n (pc2 := 11) rfl rfl rfl ?_
                      refine z_putP (pc2 := 14) rfl rfl rfl rfl (by first | exact z_fitO _ _ | exact z_fitA _ _) rfl w59.2.1 True.intro ?_
                      refine z_aload_n (pc2 := 15) rfl rfl rfl ?_
                      refine z_iload_n (pc2 := 16) rfl rfl rfl ?_
                      refine z_putI (pc2 := 19) rfl rfl rfl rfl rfl rfl w59.2.1 (by omega) True.intro ?_
                      refine z_aload_n (pc2 := 20) rfl rfl rfl ?_
                      refine z_iload (pc2 := 22) rfl rfl rfl ?_
                      refine z_putI (pc2 := 25) rfl rfl rfl rfl rfl rfl w59.2.1 (by omega) True.intro ?_
                      refine z_aload_n (pc2 := 26) rfl rfl rfl ?_
                      refine z_aconst_null (pc2 := 27) rfl rfl ?_
                      refine z_putP (pc2 := 30) rfl rfl rfl rfl (by first | exact z_fitO _ _ | exact z_fitA _ _) rfl w59.2.1 True.intro ?_
                      refine z_aload_n (pc2 := 31) rfl rfl rfl ?_
                      refine z_aconst_null (pc2 := 32) rfl rfl ?_
                      refine z_putP (pc2 := 35) rfl rfl rfl rfl (by first | exact z_fitO _ _ | exact z_fitA _ _) rfl w59.2.1 True.intro ?_
                      refine z_ret rfl rfl ?_
                      show zB _ _ _ _ _ _ [_, _, _] _ _
                      refine zB_rtO (g := 1) (gs := [d, n23]) w59.2.1 (zSort_I (cd := (e)) (by simp [zU]) (by simp [zU]) (by omega)) (zSort_P (q := q22) (by simp [zU]) (by omega) ((w59.1 _ (by omega)).1.trans tq22) (by omega) (by simp [zU]) (by simp [zU]) (by omega)) (fun T61 r61 t61 m61 => ?_)
                      refine z_aast (pc2 := 202) rfl rfl ((r61 _ (by omega)).trans ((w59.1 _ (by omega)).1.trans tx10.2.2.1)) rfl (by omega) (by omega) (by omega) (fun b hb => by cases hb; rw [t61]; exact ⟨_, rfl, rfl⟩) (Or.inr ⟨_, rfl, by omega, _, _, t61, by omega, by omega⟩) ?_
                      refine z_aload_n (pc2 := 203) rfl rfl rfl ?_
                      refine z_iconst (pc2 := 204) rfl rfl ?_
                      refine z_callV (y2 := 144) (as := [_]) (rest := []) (pc2 := 207) rfl rfl rfl rfl ((r61 _ (by omega)).trans ((w59.1 _ (by omega)).1.trans t1)) rfl ?_
                      refine z_inl ?_
                      refine z_lv (lv2 := [(0, _), (1, _)]) ⟨rfl, rfl, trivial⟩ ?_
                      refine z_aload_n (pc2 := 1) rfl rfl rfl ?_
                      refine z_iconst (pc2 := 2) rfl rfl ?_
                      refine z_putI (pc2 := 5) rfl rfl rfl rfl rfl rfl ((r61 _ (by omega)).trans ((w59.1 _ (by omega)).1.trans t1)) (by omega) True.intro ?_
                      refine z_iload_n (pc2 := 6) rfl rfl rfl ?_
                      refine z_iret rfl rfl ?_
                      show zB _ _ _ _ _ _ [_] _ _
                      refine z_iret rfl rfl ?_
                      exact hK _ _ _ _ _ _ _ (zCP_tr (m := n) (zCP_keep2 (n := n) iz42 hb8 k42 f42) (zCP_q ⟨(zTn_r (zTn_n zTn_rf w59 (by omega)) r61 (by omega)), (zQi_u (zQi_u (zQi_u (zQi_u (zQi_n (zQi_u zQi_rf (by unfold zIr; omega)) w59 (by omega)) (by unfold zIr; omega)) (by unfold zIr; omega)) (by unfold zIr; omega)) (by unfold zIr; omega)), (zQp_u (zQp_u (zQp_u (zQp_u (zQp_n zQp_rf w59 (by omega)) (by unfold zPr; omega)) (by unfold zPr; omega)) (by unfold zPr; omega)) (by unfold zPr; omega))⟩ (zTm_tr (zTm_tr (zTm_rf _) (zTk_m w59.2.2.2.2)) m61)) (by omega)) (by omega)
                    ·
                      refine z_iconst (pc2 := 162) rfl rfl ?_
                      refine z_goto (pc2 := 166) rfl rfl ?_
                      refine z_istore (lv2 := [(7, _), (6, _), (5, _), (0, _), (1, _), (2, _), (3, _), (4, _)]) (pc2 := 168) rfl rfl rfl rfl ?_
                      refine z_aload_n (pc2 := 169) rfl rfl rfl ?_
                      refine z_getP (pc2 := 172) rfl rfl rfl rfl t1 ?_
                      intro p62 p62e p62k
                      clear p62k; replace p62e : p62 = some b8 := by rw [p62e]; first | exact (Eq.trans p7e (Eq.symm (k42.2 _ _ (by omega)))) | exact Eq.symm (Eq.trans p7e (Eq.symm (k42.2 _ _ (by omega)))) | (simp [zU]; first | done | exact (Eq.trans p7e (Eq.symm (k42.2 _ _ (by omega)))) | exact Eq.symm (Eq.trans p7e (Eq.symm (k42.2 _ _ (by omega)))) | omega)
                      subst p62e
                      refine z_getP (pc2 := 175) rfl rfl rfl rfl tb8.1 ?_
                      intro p63 p63e p63k
                      clear p63k; replace p63e : p63 = some x10 := by rw [p63e]; first | exact (Eq.trans p9e (Eq.symm (k42.2 _ _ (by omega)))) | exact Eq.symm (Eq.trans p9e (Eq.symm (k42.2 _ _ (by omega)))) | (simp [zU]; first | done | exact (Eq.trans p9e (Eq.symm (k42.2 _ _ (by omega)))) | exact Eq.symm (Eq.trans p9e (Eq.symm (k42.2 _ _ (by omega)))) | omega)
                      subst p63e
                      refine z_getP (pc2 := 178) rfl rfl rfl rfl tx10.1 ?_
                      intro p64 p64e p64k
                      replace p64k : p64 = some (x10 + 2) := p64k; clear p64e; subst p64k
                      refine z_iload_n (pc2 := 179) rfl rfl rfl ?_
                      refine z_new (c := 9) (s := 6) (pc2 := 182) rfl rfl rfl rfl (fun _ => True.intro) (fun T65 I65 P65 G65 w65 => ?_)
                      refine z_dup (pc2 := 183) rfl rfl rfl ?_
                      refine z_iload_n (pc2 := 184) rfl rfl rfl ?_
                      refine z_aload (pc2 := 186) rfl rfl rfl ?_
                      refine z_iload (pc2 := 188) rfl rfl rfl ?_
                      refine z_if_eq (t := 195) (pc2 := 191) rfl rfl rfl (by omega) (fun c66 => by exfalso; omega) (fun c66 => ?_)
                      refine z_iconst (pc2 := 192) rfl rfl ?_
                      refine z_goto (pc2 := 197) rfl rfl ?_
                      refine z_iconst (pc2 := 198) rfl rfl ?_
                      refine z_callP (y2 := 83) (as := [_, _, _, _]) (rest := [_, _, _]) (pc2 := 201) rfl rfl rfl rfl ?_
                      refine z_inl ?_
                      refine z_lv (lv2 := [(0, _), (1, _), (2, _), (3, _), (4, _)]) ⟨rfl, rfl, rfl, rfl, rfl, trivial⟩ ?_
                      refine z_aload_n (pc2 := 1) rfl rfl rfl ?_
                      refine z_obj (pc2 := 4) rfl rfl rfl rfl ?_
                      refine z_aload_n (pc2 := 5) rfl rfl rfl ?_
                      refine z_iload_n (pc2 := 6) rfl rfl rfl ?_
                      refine z_putI (pc2 := 9) rfl rfl rfl rfl rfl rfl w65.2.1 (by omega) True.intro ?_
                      refine z_aload_n (pc2 := 10) rfl rfl rfl ?_
                      refine z_aload_n (pc2 := 11) rfl rfl rfl ?_
                      refine z_putP (pc2 := 14) rfl rfl rfl rfl (by first | exact z_fitO _ _ | exact z_fitA _ _) rfl w65.2.1 True.intro ?_
                      refine z_aload_n (pc2 := 15) rfl rfl rfl ?_
                      refine z_iload_n (pc2 := 16) rfl rfl rfl ?_
                      refine z_putI (pc2 := 19) rfl rfl rfl rfl rfl rfl w65.2.1 (by omega) True.intro ?_
                      refine z_aload_n (pc2 := 20) rfl rfl rfl ?_
                      refine z_iload (pc2 := 22) rfl rfl rfl ?_
                      refine z_putI (pc2 := 25) rfl rfl rfl rfl rfl rfl w65.2.1 (by omega) True.intro ?_
                      refine z_aload_n (pc2 := 26) rfl rfl rfl ?_
                      refine z_aconst_null (pc2 := 27) rfl rfl ?_
                      refine z_putP (pc2 := 30) rfl rfl rfl rfl (by first | exact z_fitO _ _ | exact z_fitA _ _) rfl w65.2.1 True.intro ?_
                      refine z_aload_n (pc2 := 31) rfl rfl rfl ?_
                      refine z_aconst_null (pc2 := 32) rfl rfl ?_
                      refine z_putP (pc2 := 35) rfl rfl rfl rfl (by first | exact z_fitO _ _ | exact z_fitA _ _) rfl w65.2.1 True.intro ?_
                      refine z_ret rfl rfl ?_
                      show zB _ _ _ _ _ _ [_, _, _] _ _
                      refine zB_rtO (g := 1) (gs := [d, n23]) w65.2.1 (zSort_I (cd := (0)) (by simp [zU]) (by simp [zU]) (by omega)) (zSort_P (q := q22) (by simp [zU]) (by omega) ((w65.1 _ (by omega)).1.trans tq22) (by omega) (by simp [zU]) (by simp [zU]) (by omega)) (fun T67 r67 t67 m67 => ?_)
                      refine z_aast (pc2 := 202) rfl rfl ((r67 _ (by omega)).trans ((w65.1 _ (by omega)).1.trans tx10.2.2.1)) rfl (by omega) (by omega) (by omega) (fun b hb => by cases hb; rw [t67]; exact ⟨_, rfl, rfl⟩) (Or.inr ⟨_, rfl, by omega, _, _, t67, by omega, by omega⟩) ?_
                      refine z_aload_n (pc2 := 203) rfl rfl rfl ?_
                      refine z_iconst (pc2 := 204) rfl rfl ?_
                      refine z_callV (y2 := 144) (as := [_]) (rest := []) (pc2 := 207) rfl rfl rfl rfl ((r67 _ (by omega)).trans ((w65.1 _ (by omega)).1.trans t1)) rfl ?_
                      refine z_inl ?_
                      refine z_lv (lv2 := [(0, _), (1, _)]) ⟨rfl, rfl, trivial⟩ ?_
                      refine z_aload_n (pc2 := 1) rfl rfl rfl ?_
                      refine z_iconst (pc2 := 2) rfl rfl ?_
                      refine z_putI (pc2 := 5) rfl rfl rfl rfl rfl rfl ((r67 _ (by omega)).trans ((w65.1 _ (by omega)).1.trans t1)) (by omega) True.intro ?_
                      refine z_iload_n (pc2 := 6) rfl rfl rfl ?_
                      refine z_iret rfl rfl ?_
                      show zB _ _ _ _ _ _ [_] _ _
                      refine z_iret rfl rfl ?_
                      exact hK _ _ _ _ _ _ _ (zCP_tr (m := n) (zCP_keep2 (n := n) iz42 hb8 k42 f42) (zCP_q ⟨(zTn_r (zTn_n zTn_rf w65 (by omega)) r67 (by omega)), (zQi_u (zQi_u (zQi_u (zQi_u (zQi_n (zQi_u zQi_rf (by unfold zIr; omega)) w65 (by omega)) (by unfold zIr; omega)) (by unfold zIr; omega)) (by unfold zIr; omega)) (by unfold zIr; omega)), (zQp_u (zQp_u (zQp_u (zQp_u (zQp_n zQp_rf w65 (by omega)) (by unfold zPr; omega)) (by unfold zPr; omega)) (by unfold zPr; omega)) (by unfold zPr; omega))⟩ (zTm_tr (zTm_tr (zTm_rf _) (zTk_m w65.2.2.2.2)) m67)) (by omega)) (by omega)
                ·
                  refine z_aload_n (pc2 := 121) rfl rfl rfl ?_
                  refine z_bipush (pc2 := 123) rfl rfl (by decide) ?_
                  refine z_callV (y2 := 143) (as := [_]) (rest := []) (pc2 := 126) rfl rfl rfl rfl t1 rfl ?_
                  refine z_inl ?_
                  refine z_lv (lv2 := [(0, _), (1, _)]) ⟨rfl, rfl, trivial⟩ ?_
                  refine z_aload_n (pc2 := 1) rfl rfl rfl ?_
                  refine z_dup (pc2 := 2) rfl rfl rfl ?_
                  refine z_getI (pc2 := 5) 0 rfl rfl rfl rfl rfl t1 ?_
                  intro v68 e68 r68 k68
                  clear k68
                  clear e68
                  refine z_iconst (pc2 := 6) rfl rfl ?_
                  refine z_iadd (pc2 := 7) rfl rfl ?_
                  refine z_putI_any (pc2 := 10) rfl rfl rfl rfl rfl rfl t1 (fun _ _ => True.intro) (fun u69 u69r => ?_)
                  refine z_aload_n (pc2 := 11) rfl rfl rfl ?_
                  refine z_iload_n (pc2 := 12) rfl rfl rfl ?_
                  refine z_putI (pc2 := 15) rfl rfl rfl rfl rfl rfl t1 (by omega) True.intro ?_
                  refine z_iload_n (pc2 := 16) rfl rfl rfl ?_
                  refine z_iret rfl rfl ?_
                  show zB _ _ _ _ _ _ [_] _ _
                  refine z_iret rfl rfl ?_
                  exact hK _ _ _ _ _ _ _ (zCP_q ⟨zTn_rf, (zQi_u (zQi_u zQi_rf (by unfold zIr; omega)) (by unfold zIr; omega)), zQp_rf⟩ (zTm_rf _)) (by omega)
              ·
                refine z_aload_n (pc2 := 98) rfl rfl rfl ?_
                refine z_iload (pc2 := 100) rfl rfl rfl ?_
                refine z_callV (y2 := 143) (as := [_]) (rest := []) (pc2 := 103) rfl rfl rfl rfl t1 rfl ?_
                refine z_inl ?_
                refine z_lv (lv2 := [(0, _), (1, _)]) ⟨rfl, rfl, trivial⟩ ?_
                refine z_aload_n (pc2 := 1) rfl rfl rfl ?_
                refine z_dup (pc2 := 2) rfl rfl rfl ?_
                refine z_getI (pc2 := 5) 0 rfl rfl rfl rfl rfl t1 ?_
                intro v70 e70 r70 k70
                clear k70
                clear e70
                refine z_iconst (pc2 := 6) rfl rfl ?_
                refine z_iadd (pc2 := 7) rfl rfl ?_
                refine z_putI_any (pc2 := 10) rfl rfl rfl rfl rfl rfl t1 (fun _ _ => True.intro) (fun u71 u71r => ?_)
                refine z_aload_n (pc2 := 11) rfl rfl rfl ?_
                refine z_iload_n (pc2 := 12) rfl rfl rfl ?_
                refine z_putI (pc2 := 15) rfl rfl rfl rfl rfl rfl t1 (by omega) True.intro ?_
                refine z_iload_n (pc2 := 16) rfl rfl rfl ?_
                refine z_iret rfl rfl ?_
                show zB _ _ _ _ _ _ [_] _ _
                refine z_iret rfl rfl ?_
                exact hK _ _ _ _ _ _ _ (zCP_q ⟨zTn_rf, (zQi_u (zQi_u zQi_rf (by unfold zIr; omega)) (by unfold zIr; omega)), zQp_rf⟩ (zTm_rf _)) (by omega)
          ·
            refine z_iconst (pc2 := 11) rfl rfl ?_
            refine z_goto (pc2 := 15) rfl rfl ?_
            refine z_zret rfl rfl (by omega) ?_
            show zB _ _ _ _ _ _ [_] _ _
            refine z_if_eq (t := 63) (pc2 := 56) rfl rfl rfl (by omega) (fun c72 => by exfalso; omega) (fun c72 => ?_)
            refine z_aload_n (pc2 := 57) rfl rfl rfl ?_
            refine z_bipush (pc2 := 59) rfl rfl (by decide) ?_
            refine z_callV (y2 := 142) (as := [_]) (rest := []) (pc2 := 62) rfl rfl rfl rfl t1 rfl ?_
            refine z_inl ?_
            refine z_lv (lv2 := [(0, _), (1, _)]) ⟨rfl, rfl, trivial⟩ ?_
            refine z_aload_n (pc2 := 1) rfl rfl rfl ?_
            refine z_iload_n (pc2 := 2) rfl rfl rfl ?_
            refine z_putI (pc2 := 5) rfl rfl rfl rfl rfl rfl t1 (by omega) True.intro ?_
            refine z_iload_n (pc2 := 6) rfl rfl rfl ?_
            refine z_iret rfl rfl ?_
            show zB _ _ _ _ _ _ [_] _ _
            refine z_iret rfl rfl ?_
            exact hK _ _ _ _ _ _ _ (zCP_q ⟨zTn_rf, (zQi_u zQi_rf (by unfold zIr; omega)), zQp_rf⟩ (zTm_rf _)) (by omega)
        ·
          replace tq13 : _ = ((1, 9, [1, d14, n15]) : zT) := tq13
          refine zB_le tq13 trivial (fun q13l => ?_)
          refine z_ifnull (t := 49) (pc2 := 42) rfl rfl rfl (fun h => by cases h) (fun _ _ => ?_)
          refine z_aload_n (pc2 := 43) rfl rfl rfl ?_
          refine z_bipush (pc2 := 45) rfl rfl (by decide) ?_
          refine z_callV (y2 := 142) (as := [_]) (rest := []) (pc2 := 48) rfl rfl rfl rfl t1 rfl ?_
          refine z_inl ?_
          refine z_lv (lv2 := [(0, _), (1, _)]) ⟨rfl, rfl, trivial⟩ ?_
          refine z_aload_n (pc2 := 1) rfl rfl rfl ?_
          refine z_iload_n (pc2 := 2) rfl rfl rfl ?_
          refine z_putI (pc2 := 5) rfl rfl rfl rfl rfl rfl t1 (by omega) True.intro ?_
          refine z_iload_n (pc2 := 6) rfl rfl rfl ?_
          refine z_iret rfl rfl ?_
          show zB _ _ _ _ _ _ [_] _ _
          refine z_iret rfl rfl ?_
          exact hK _ _ _ _ _ _ _ (zCP_q ⟨zTn_rf, (zQi_u zQi_rf (by unfold zIr; omega)), zQp_rf⟩ (zTm_rf _)) (by omega)
      ·
        refine z_aload_n (pc2 := 22) rfl rfl rfl ?_
        refine z_iconst (pc2 := 23) rfl rfl ?_
        refine z_callV (y2 := 142) (as := [_]) (rest := []) (pc2 := 26) rfl rfl rfl rfl t1 rfl ?_
        refine z_inl ?_
        refine z_lv (lv2 := [(0, _), (1, _)]) ⟨rfl, rfl, trivial⟩ ?_
        refine z_aload_n (pc2 := 1) rfl rfl rfl ?_
        refine z_iload_n (pc2 := 2) rfl rfl rfl ?_
        refine z_putI (pc2 := 5) rfl rfl rfl rfl rfl rfl t1 (by omega) True.intro ?_
        refine z_iload_n (pc2 := 6) rfl rfl rfl ?_
        refine z_iret rfl rfl ?_
        show zB _ _ _ _ _ _ [_] _ _
        refine z_iret rfl rfl ?_
        exact hK _ _ _ _ _ _ _ (zCP_q ⟨zTn_rf, (zQi_u zQi_rf (by unfold zIr; omega)), zQp_rf⟩ (zTm_rf _)) (by omega)
set_option maxHeartbeats 8000000 in
theorem c_TypeRoom_stack {L : Nat} {xs : Nat → Int32} {n sl : Nat} {T : Nat → zT} {I : Nat → Nat → Int} {P : Nat → Nat → Option Nat} {G : Nat → Nat → Int} {K : List zV → zH → Prop} {a c : Int} (hn : 90 ≤ n) (hC : ∀ a, 1 ≤ a → a ≤ 55 → T a = zFixC a) (ha : zR a) (hc : zR c) (hcr : zCR T I P) (hK : ∀ e n2 sl2 T2 I2 P2 G2, zCP n T T2 I I2 P P2 → (n ≤ n2 ∧ n2 ≤ n + 1 ∧ sl2 ≤ sl + 6) → K [.inl e] (n2, sl2, T2, I2, P2, G2)) : zX zMd L xs 120 [.inr (.inl (some 1)), .inl a, .inl c] (n, sl, T, I, P, G) K := by
  have t1 : T 1 = (1, 11, [1]) := hC 1 (by decide) (by decide)
  refine z_inl ?_
  refine z_lv (lv2 := [(0, _), (1, _), (2, _)]) ⟨rfl, rfl, rfl, trivial⟩ ?_
  refine z_iload_n (pc2 := 1) rfl rfl rfl ?_
  refine z_callS (y2 := 153) (as := [_]) (rest := []) (pc2 := 4) rfl rfl rfl rfl ?_
  refine z_inl ?_
  refine z_lv (lv2 := [(0, _)]) ⟨rfl, trivial⟩ ?_
  refine z_iload_n (pc2 := 1) rfl rfl rfl ?_
  refine z_iconst (pc2 := 2) rfl rfl ?_
  refine z_bipush (pc2 := 4) rfl rfl (by decide) ?_
  refine z_callS (y2 := 155) (as := [_, _, _]) (rest := []) (pc2 := 7) rfl rfl rfl rfl ?_
  refine c_TypeRoom_isOutside (by omega) (by omega) (by omega) (fun e1 e1a e1b e1c => ?_)
  show zB _ _ _ _ _ _ [_] _ _
  refine z_zret rfl rfl (by omega) ?_
  show zB _ _ _ _ _ _ [_] _ _
  refine z_if_ne (t := 19) (pc2 := 7) rfl rfl rfl (by omega) (fun c2 => ?_) (fun c2 => ?_)
  ·
    refine z_aload_n (pc2 := 20) rfl rfl rfl ?_
    refine z_iconst (pc2 := 21) rfl rfl ?_
    refine z_callV (y2 := 142) (as := [_]) (rest := []) (pc2 := 24) rfl rfl rfl rfl t1 rfl ?_
    refine z_inl ?_
    refine z_lv (lv2 := [(0, _), (1, _)]) ⟨rfl, rfl, trivial⟩ ?_
    refine z_aload_n (pc2 := 1) rfl rfl rfl ?_
    refine z_iload_n (pc2 := 2) rfl rfl rfl ?_
    refine z_putI (pc2 := 5) rfl rfl rfl rfl rfl rfl t1 (by omega) True.intro ?_
    refine z_iload_n (pc2 := 6) rfl rfl rfl ?_
    refine z_iret rfl rfl ?_
    show zB _ _ _ _ _ _ [_] _ _
    refine z_iret rfl rfl ?_
    exact hK _ _ _ _ _ _ _ (zCP_q ⟨zTn_rf, (zQi_u zQi_rf (by unfold zIr; omega)), zQp_rf⟩ (zTm_rf _)) (by omega)
  ·
    refine z_iload_n (pc2 := 8) rfl rfl rfl ?_
    refine z_callS (y2 := 153) (as := [_]) (rest := []) (pc2 := 11) rfl rfl rfl rfl ?_
    refine z_inl ?_
    refine z_lv (lv2 := [(0, _)]) ⟨rfl, trivial⟩ ?_
    refine z_iload_n (pc2 := 1) rfl rfl rfl ?_
    refine z_iconst (pc2 := 2) rfl rfl ?_
    refine z_bipush (pc2 := 4) rfl rfl (by decide) ?_
    refine z_callS (y2 := 155) (as := [_, _, _]) (rest := []) (pc2 := 7) rfl rfl rfl rfl ?_
    refine c_TypeRoom_isOutside (by omega) (by omega) (by omega) (fun e3 e3a e3b e3c => ?_)
    show zB _ _ _ _ _ _ [_] _ _
    refine z_zret rfl rfl (by omega) ?_
    show zB _ _ _ _ _ _ [_] _ _
    refine z_if_ne (t := 19) (pc2 := 14) rfl rfl rfl (by omega) (fun c4 => ?_) (fun c4 => ?_)
    ·
      refine z_aload_n (pc2 := 20) rfl rfl rfl ?_
      refine z_iconst (pc2 := 21) rfl rfl ?_
      refine z_callV (y2 := 142) (as := [_]) (rest := []) (pc2 := 24) rfl rfl rfl rfl t1 rfl ?_
      refine z_inl ?_
      refine z_lv (lv2 := [(0, _), (1, _)]) ⟨rfl, rfl, trivial⟩ ?_
      refine z_aload_n (pc2 := 1) rfl rfl rfl ?_
      refine z_iload_n (pc2 := 2) rfl rfl rfl ?_
      refine z_putI (pc2 := 5) rfl rfl rfl rfl rfl rfl t1 (by omega) True.intro ?_
      refine z_iload_n (pc2 := 6) rfl rfl rfl ?_
      refine z_iret rfl rfl ?_
      show zB _ _ _ _ _ _ [_] _ _
      refine z_iret rfl rfl ?_
      exact hK _ _ _ _ _ _ _ (zCP_q ⟨zTn_rf, (zQi_u zQi_rf (by unfold zIr; omega)), zQp_rf⟩ (zTm_rf _)) (by omega)
    ·
      refine z_iload_n (pc2 := 15) rfl rfl rfl ?_
      refine z_iload_n (pc2 := 16) rfl rfl rfl ?_
      refine z_icmp_ne (t := 25) (pc2 := 19) rfl rfl rfl (by omega) (by omega) (fun c5 => ?_) (fun c5 => ?_)
      ·
        refine z_aload_n (pc2 := 26) rfl rfl rfl ?_
        refine z_callV (y2 := 148) (as := []) (rest := []) (pc2 := 29) rfl rfl rfl rfl t1 rfl ?_
        refine z_inl ?_
        refine z_lv (lv2 := [(0, _)]) ⟨rfl, trivial⟩ ?_
        refine z_aload_n (pc2 := 1) rfl rfl rfl ?_
        refine z_getI (pc2 := 4) 0 rfl rfl rfl rfl rfl t1 ?_
        intro v6 e6 r6 k6
        clear k6
        clear e6
        refine z_sipush (pc2 := 7) rfl rfl (by decide) ?_
        refine z_icmp_lt (t := 14) (pc2 := 10) rfl rfl rfl (by omega) (by omega) (fun c7 => ?_) (fun c7 => ?_)
        ·
          refine z_iconst (pc2 := 15) rfl rfl ?_
          refine z_zret rfl rfl (by omega) ?_
          show zB _ _ _ _ _ _ [_] _ _
          refine z_if_eq (t := 39) (pc2 := 32) rfl rfl rfl (by omega) (fun c8 => ?_) (fun c8 => by exfalso; omega)
          refine z_aload_n (pc2 := 40) rfl rfl rfl ?_
          refine z_getP (pc2 := 43) rfl rfl rfl rfl t1 ?_
          intro p9 p9e p9k
          obtain ⟨b10, rfl, hb10⟩ := zHere p9k
          have tb10 := zRm_t hC hb10
          refine z_getP (pc2 := 46) rfl rfl rfl rfl tb10.1 ?_
          intro p11 p11e p11k
          obtain ⟨x12, rfl, hx12⟩ := zFloorOf p11k
          have ix12 : x12 = 23 ∨ x12 = 30 ∨ x12 = 42 ∨ x12 = 49 := by omega
          have tx12 := zFl_t hC ix12
          refine z_getP (pc2 := 49) rfl rfl rfl rfl tx12.1 ?_
          intro p13 p13e p13k
          replace p13k : p13 = some (x12 + 2) := p13k; clear p13e; subst p13k
          refine z_iload_n (pc2 := 50) rfl rfl rfl ?_
          refine z_aald (pc2 := 51) rfl rfl tx12.2.2.1 rfl (by omega) (by omega) (by omega) ?_
          intro p14 p14e p14k
          rcases p14k with rfl | ⟨q15, rfl, q159, d16, n17, tq15, q15c, q15b⟩
          ·
            refine z_astore_n (lv2 := [(3, _), (0, _), (1, _), (2, _)]) (pc2 := 52) rfl rfl rfl rfl ?_
            refine z_aload_n (pc2 := 53) rfl rfl rfl ?_
            refine z_getP (pc2 := 56) rfl rfl rfl rfl t1 ?_
            intro p18 p18e p18k
            clear p18k; replace p18e : p18 = some b10 := by rw [p18e]; first | exact p9e | exact Eq.symm p9e | (simp [zU]; first | done | exact p9e | exact Eq.symm p9e | omega)
            subst p18e
            refine z_getP (pc2 := 59) rfl rfl rfl rfl tb10.1 ?_
            intro p19 p19e p19k
            clear p19k; replace p19e : p19 = some x12 := by rw [p19e]; first | exact p11e | exact Eq.symm p11e | (simp [zU]; first | done | exact p11e | exact Eq.symm p11e | omega)
            subst p19e
            refine z_getP (pc2 := 62) rfl rfl rfl rfl tx12.1 ?_
            intro p20 p20e p20k
            replace p20k : p20 = some (x12 + 2) := p20k; clear p20e; subst p20k
            refine z_iload_n (pc2 := 63) rfl rfl rfl ?_
            refine z_aald (pc2 := 64) rfl rfl tx12.2.2.1 rfl (by omega) (by omega) (by omega) ?_
            intro p21 p21e p21k
            rcases p21k with rfl | ⟨q22, rfl, q229, d23, n24, tq22, q22c, q22b⟩
            ·
              refine z_astore (lv2 := [(4, _), (3, _), (0, _), (1, _), (2, _)]) (pc2 := 66) rfl rfl rfl rfl ?_
              refine z_aload_n (pc2 := 67) rfl rfl rfl ?_
              refine z_ifnull (t := 77) (pc2 := 70) rfl rfl rfl (fun _ => ?_) (fun a h => by cases h)
              refine z_aload (pc2 := 79) rfl rfl rfl ?_
              refine z_ifnull (t := 97) (pc2 := 82) rfl rfl rfl (fun _ => ?_) (fun a h => by cases h)
              refine z_aload_n (pc2 := 98) rfl rfl rfl ?_
              refine z_ifnull (t := 106) (pc2 := 101) rfl rfl rfl (fun _ => ?_) (fun a h => by cases h)
              refine z_aload_n (pc2 := 107) rfl rfl rfl ?_
              refine z_bipush (pc2 := 109) rfl rfl (by decide) ?_
              refine z_callV (y2 := 143) (as := [_]) (rest := []) (pc2 := 112) rfl rfl rfl rfl t1 rfl ?_
              refine z_inl ?_
              refine z_lv (lv2 := [(0, _), (1, _)]) ⟨rfl, rfl, trivial⟩ ?_
              refine z_aload_n (pc2 := 1) rfl rfl rfl ?_
              refine z_dup (pc2 := 2) rfl rfl rfl ?_
              refine z_getI (pc2 := 5) 0 rfl rfl rfl rfl rfl t1 ?_
              intro v25 e25 r25 k25
              clear k25
              clear e25
              refine z_iconst (pc2 := 6) rfl rfl ?_
              refine z_iadd (pc2 := 7) rfl rfl ?_
              refine z_putI_any (pc2 := 10) rfl rfl rfl rfl rfl rfl t1 (fun _ _ => True.intro) (fun u26 u26r => ?_)
              refine z_aload_n (pc2 := 11) rfl rfl rfl ?_
              refine z_iload_n (pc2 := 12) rfl rfl rfl ?_
              refine z_putI (pc2 := 15) rfl rfl rfl rfl rfl rfl t1 (by omega) True.intro ?_
              refine z_iload_n (pc2 := 16) rfl rfl rfl ?_
              refine z_iret rfl rfl ?_
              show zB _ _ _ _ _ _ [_] _ _
              refine z_iret rfl rfl ?_
              exact hK _ _ _ _ _ _ _ (zCP_q ⟨zTn_rf, (zQi_u (zQi_u zQi_rf (by unfold zIr; omega)) (by unfold zIr; omega)), zQp_rf⟩ (zTm_rf _)) (by omega)
            ·
              replace tq22 : _ = ((1, 9, [1, d23, n24]) : zT) := tq22
              refine zB_le tq22 trivial (fun q22l => ?_)
              refine z_astore (lv2 := [(4, _), (3, _), (0, _), (1, _), (2, _)]) (pc2 := 66) rfl rfl rfl rfl ?_
              refine z_aload_n (pc2 := 67) rfl rfl rfl ?_
              refine z_ifnull (t := 77) (pc2 := 70) rfl rfl rfl (fun _ => ?_) (fun a h => by cases h)
              refine z_aload (pc2 := 79) rfl rfl rfl ?_
              refine z_ifnull (t := 97) (pc2 := 82) rfl rfl rfl (fun h => by cases h) (fun _ _ => ?_)
              refine z_aload (pc2 := 84) rfl rfl rfl ?_
              refine z_callV (y2 := 85) (as := []) (rest := []) (pc2 := 87) rfl rfl rfl rfl tq22 rfl ?_
              refine z_inl ?_
              refine z_lv (lv2 := [(0, _)]) ⟨rfl, trivial⟩ ?_
              refine z_aload_n (pc2 := 1) rfl rfl rfl ?_
              refine z_getI (pc2 := 4) 0 rfl rfl rfl rfl rfl tq22 ?_
              intro v27 e27 r27 k27
              replace k27 : d23 = v27 := Eq.symm k27; clear r27 e27; subst k27
              refine z_if_eq (t := 15) (pc2 := 7) rfl rfl rfl (by omega) (fun c28 => ?_) (fun c28 => ?_)
              ·
                refine z_iconst (pc2 := 16) rfl rfl ?_
                refine z_goto (pc2 := 20) rfl rfl ?_
                refine z_zret rfl rfl (by omega) ?_
                show zB _ _ _ _ _ _ [_] _ _
                refine z_if_ne (t := 97) (pc2 := 90) rfl rfl rfl (by omega) (fun c29 => ?_) (fun c29 => by exfalso; omega)
                refine z_aload_n (pc2 := 98) rfl rfl rfl ?_
                refine z_ifnull (t := 106) (pc2 := 101) rfl rfl rfl (fun _ => ?_) (fun a h => by cases h)
                refine z_aload_n (pc2 := 107) rfl rfl rfl ?_
                refine z_bipush (pc2 := 109) rfl rfl (by decide) ?_
                refine z_callV (y2 := 143) (as := [_]) (rest := []) (pc2 := 112) rfl rfl rfl rfl t1 rfl ?_
                refine z_inl ?_
                refine z_lv (lv2 := [(0, _), (1, _)]) ⟨rfl, rfl, trivial⟩ ?_
                refine z_aload_n (pc2 := 1) rfl rfl rfl ?_
                refine z_dup (pc2 := 2) rfl rfl rfl ?_
                refine z_getI (pc2 := 5) 0 rfl rfl rfl rfl rfl t1 ?_
                intro v30 e30 r30 k30
                clear k30
                clear e30
                refine z_iconst (pc2 := 6) rfl rfl ?_
                refine z_iadd (pc2 := 7) rfl rfl ?_
                refine z_putI_any (pc2 := 10) rfl rfl rfl rfl rfl rfl t1 (fun _ _ => True.intro) (fun u31 u31r => ?_)
                refine z_aload_n (pc2 := 11) rfl rfl rfl ?_
                refine z_iload_n (pc2 := 12) rfl rfl rfl ?_
                refine z_putI (pc2 := 15) rfl rfl rfl rfl rfl rfl t1 (by omega) True.intro ?_
                refine z_iload_n (pc2 := 16) rfl rfl rfl ?_
                refine z_iret rfl rfl ?_
                show zB _ _ _ _ _ _ [_] _ _
                refine z_iret rfl rfl ?_
                exact hK _ _ _ _ _ _ _ (zCP_q ⟨zTn_rf, (zQi_u (zQi_u zQi_rf (by unfold zIr; omega)) (by unfold zIr; omega)), zQp_rf⟩ (zTm_rf _)) (by omega)
              ·
                refine z_aload_n (pc2 := 8) rfl rfl rfl ?_
                refine z_getI (pc2 := 11) 0 rfl rfl rfl rfl rfl tq22 ?_
                intro v32 e32 r32 k32
                replace k32 : d23 = v32 := Eq.symm k32; clear r32 e32; subst k32
                refine z_iconst (pc2 := 12) rfl rfl ?_
                refine z_icmp_ne (t := 19) (pc2 := 15) rfl rfl rfl (by omega) (by omega) (fun c33 => ?_) (fun c33 => ?_)
                ·
                  refine z_iconst (pc2 := 20) rfl rfl ?_
                  refine z_zret rfl rfl (by omega) ?_
                  show zB _ _ _ _ _ _ [_] _ _
                  refine z_if_ne (t := 97) (pc2 := 90) rfl rfl rfl (by omega) (fun c34 => by exfalso; omega) (fun c34 => ?_)
                  refine z_aload_n (pc2 := 91) rfl rfl rfl ?_
                  refine z_bipush (pc2 := 93) rfl rfl (by decide) ?_
                  refine z_callV (y2 := 143) (as := [_]) (rest := []) (pc2 := 96) rfl rfl rfl rfl t1 rfl ?_
                  refine z_inl ?_
                  refine z_lv (lv2 := [(0, _), (1, _)]) ⟨rfl, rfl, trivial⟩ ?_
                  refine z_aload_n (pc2 := 1) rfl rfl rfl ?_
                  refine z_dup (pc2 := 2) rfl rfl rfl ?_
                  refine z_getI (pc2 := 5) 0 rfl rfl rfl rfl rfl t1 ?_
                  intro v35 e35 r35 k35
                  clear k35
                  clear e35
                  refine z_iconst (pc2 := 6) rfl rfl ?_
                  refine z_iadd (pc2 := 7) rfl rfl ?_
                  refine z_putI_any (pc2 := 10) rfl rfl rfl rfl rfl rfl t1 (fun _ _ => True.intro) (fun u36 u36r => ?_)
                  refine z_aload_n (pc2 := 11) rfl rfl rfl ?_
                  refine z_iload_n (pc2 := 12) rfl rfl rfl ?_
                  refine z_putI (pc2 := 15) rfl rfl rfl rfl rfl rfl t1 (by omega) True.intro ?_
                  refine z_iload_n (pc2 := 16) rfl rfl rfl ?_
                  refine z_iret rfl rfl ?_
                  show zB _ _ _ _ _ _ [_] _ _
                  refine z_iret rfl rfl ?_
                  exact hK _ _ _ _ _ _ _ (zCP_q ⟨zTn_rf, (zQi_u (zQi_u zQi_rf (by unfold zIr; omega)) (by unfold zIr; omega)), zQp_rf⟩ (zTm_rf _)) (by omega)
                ·
                  refine z_iconst (pc2 := 16) rfl rfl ?_
                  refine z_goto (pc2 := 20) rfl rfl ?_
                  refine z_zret rfl rfl (by omega) ?_
                  show zB _ _ _ _ _ _ [_] _ _
                  refine z_if_ne (t := 97) (pc2 := 90) rfl rfl rfl (by omega) (fun c37 => ?_) (fun c37 => by exfalso; omega)
                  refine z_aload_n (pc2 := 98) rfl rfl rfl ?_
                  refine z_ifnull (t := 106) (pc2 := 101) rfl rfl rfl (fun _ => ?_) (fun a h => by cases h)
                  refine z_aload_n (pc2 := 107) rfl rfl rfl ?_
                  refine z_bipush (pc2 := 109) rfl rfl (by decide) ?_
                  refine z_callV (y2 := 143) (as := [_]) (rest := []) (pc2 := 112) rfl rfl rfl rfl t1 rfl ?_
                  refine z_inl ?_
                  refine z_lv (lv2 := [(0, _), (1, _)]) ⟨rfl, rfl, trivial⟩ ?_
                  refine z_aload_n (pc2 := 1) rfl rfl rfl ?_
                  refine z_dup (pc2 := 2) rfl rfl rfl ?_
                  refine z_getI (pc2 := 5) 0 rfl rfl rfl rfl rfl t1 ?_
                  intro v38 e38 r38 k38
                  clear k38
                  clear e38
                  refine z_iconst (pc2 := 6) rfl rfl ?_
                  refine z_iadd (pc2 := 7) rfl rfl ?_
                  refine z_putI_any (pc2 := 10) rfl rfl rfl rfl rfl rfl t1 (fun _ _ => True.intro) (fun u39 u39r => ?_)
                  refine z_aload_n (pc2 := 11) rfl rfl rfl ?_
                  refine z_iload_n (pc2 := 12) rfl rfl rfl ?_
                  refine z_putI (pc2 := 15) rfl rfl rfl rfl rfl rfl t1 (by omega) True.intro ?_
                  refine z_iload_n (pc2 := 16) rfl rfl rfl ?_
                  refine z_iret rfl rfl ?_
                  show zB _ _ _ _ _ _ [_] _ _
                  refine z_iret rfl rfl ?_
                  exact hK _ _ _ _ _ _ _ (zCP_q ⟨zTn_rf, (zQi_u (zQi_u zQi_rf (by unfold zIr; omega)) (by unfold zIr; omega)), zQp_rf⟩ (zTm_rf _)) (by omega)
          ·
            replace tq15 : _ = ((1, 9, [1, d16, n17]) : zT) := tq15
            refine zB_le tq15 trivial (fun q15l => ?_)
            refine z_astore_n (lv2 := [(3, _), (0, _), (1, _), (2, _)]) (pc2 := 52) rfl rfl rfl rfl ?_
            refine z_aload_n (pc2 := 53) rfl rfl rfl ?_
            refine z_getP (pc2 := 56) rfl rfl rfl rfl t1 ?_
            intro p40 p40e p40k
            clear p40k; replace p40e : p40 = some b10 := by rw [p40e]; first | exact p9e | exact Eq.symm p9e | (simp [zU]; first | done | exact p9e | exact Eq.symm p9e | omega)
            subst p40e
            refine z_getP (pc2 := 59) rfl rfl rfl rfl tb10.1 ?_
            intro p41 p41e p41k
            clear p41k; replace p41e : p41 = some x12 := by rw [p41e]; first | exact p11e | exact Eq.symm p11e | (simp [zU]; first | done | exact p11e | exact Eq.symm p11e | omega)
            subst p41e
            refine z_getP (pc2 := 62) rfl rfl rfl rfl tx12.1 ?_
            intro p42 p42e p42k
            replace p42k : p42 = some (x12 + 2) := p42k; clear p42e; subst p42k
            refine z_iload_n (pc2 := 63) rfl rfl rfl ?_
            refine z_aald (pc2 := 64) rfl rfl tx12.2.2.1 rfl (by omega) (by omega) (by omega) ?_
            intro p43 p43e p43k
            rcases p43k with rfl | ⟨q44, rfl, q449, d45, n46, tq44, q44c, q44b⟩
            ·
              refine z_astore (lv2 := [(4, _), (3, _), (0, _), (1, _), (2, _)]) (pc2 := 66) rfl rfl rfl rfl ?_
              refine z_aload_n (pc2 := 67) rfl rfl rfl ?_
              refine z_ifnull (t := 77) (pc2 := 70) rfl rfl rfl (fun h => by cases h) (fun _ _ => ?_)
              refine z_aload_n (pc2 := 71) rfl rfl rfl ?_
              refine z_callV (y2 := 85) (as := []) (rest := []) (pc2 := 74) rfl rfl rfl rfl tq15 rfl ?_
              refine z_inl ?_
              refine z_lv (lv2 := [(0, _)]) ⟨rfl, trivial⟩ ?_
              refine z_aload_n (pc2 := 1) rfl rfl rfl ?_
              refine z_getI (pc2 := 4) 0 rfl rfl rfl rfl rfl tq15 ?_
              intro v47 e47 r47 k47
              replace k47 : d16 = v47 := Eq.symm k47; clear r47 e47; subst k47
              refine z_if_eq (t := 15) (pc2 := 7) rfl rfl rfl (by omega) (fun c48 => ?_) (fun c48 => ?_)
              ·
                refine z_iconst (pc2 := 16) rfl rfl ?_
                refine z_goto (pc2 := 20) rfl rfl ?_
                refine z_zret rfl rfl (by omega) ?_
                show zB _ _ _ _ _ _ [_] _ _
                refine z_if_eq (t := 90) (pc2 := 77) rfl rfl rfl (by omega) (fun c49 => by exfalso; omega) (fun c49 => ?_)
                refine z_aload (pc2 := 79) rfl rfl rfl ?_
                refine z_ifnull (t := 97) (pc2 := 82) rfl rfl rfl (fun _ => ?_) (fun a h => by cases h)
                refine z_aload_n (pc2 := 98) rfl rfl rfl ?_
                refine z_ifnull (t := 106) (pc2 := 101) rfl rfl rfl (fun h => by cases h) (fun _ _ => ?_)
                refine z_aload (pc2 := 103) rfl rfl rfl ?_
                refine z_ifnonnull (t := 113) (pc2 := 106) rfl rfl rfl (fun a h => by cases h) (fun _ => ?_)
                refine z_aload_n (pc2 := 107) rfl rfl rfl ?_
                refine z_bipush (pc2 := 109) rfl rfl (by decide) ?_
                refine z_callV (y2 := 143) (as := [_]) (rest := []) (pc2 := 112) rfl rfl rfl rfl t1 rfl ?_
                refine z_inl ?_
                refine z_lv (lv2 := [(0, _), (1, _)]) ⟨rfl, rfl, trivial⟩ ?_
                refine z_aload_n (pc2 := 1) rfl rfl rfl ?_
                refine z_dup (pc2 := 2) rfl rfl rfl ?_
                refine z_getI (pc2 := 5) 0 rfl rfl rfl rfl rfl t1 ?_
                intro v50 e50 r50 k50
                clear k50
                clear e50
                refine z_iconst (pc2 := 6) rfl rfl ?_
                refine z_iadd (pc2 := 7) rfl rfl ?_
                refine z_putI_any (pc2 := 10) rfl rfl rfl rfl rfl rfl t1 (fun _ _ => True.intro) (fun u51 u51r => ?_)
                refine z_aload_n (pc2 := 11) rfl rfl rfl ?_
                refine z_iload_n (pc2 := 12) rfl rfl rfl ?_
                refine z_putI (pc2 := 15) rfl rfl rfl rfl rfl rfl t1 (by omega) True.intro ?_
                refine z_iload_n (pc2 := 16) rfl rfl rfl ?_
                refine z_iret rfl rfl ?_
                show zB _ _ _ _ _ _ [_] _ _
                refine z_iret rfl rfl ?_
                exact hK _ _ _ _ _ _ _ (zCP_q ⟨zTn_rf, (zQi_u (zQi_u zQi_rf (by unfold zIr; omega)) (by unfold zIr; omega)), zQp_rf⟩ (zTm_rf _)) (by omega)
              ·
                refine z_aload_n (pc2 := 8) rfl rfl rfl ?_
                refine z_getI (pc2 := 11) 0 rfl rfl rfl rfl rfl tq15 ?_
                intro v52 e52 r52 k52
                replace k52 : d16 = v52 := Eq.symm k52; clear r52 e52; subst k52
                refine z_iconst (pc2 := 12) rfl rfl ?_
                refine z_icmp_ne (t := 19) (pc2 := 15) rfl rfl rfl (by omega) (by omega) (fun c53 => ?_) (fun c53 => ?_)
                ·
                  refine z_iconst (pc2 := 20) rfl rfl ?_
                  refine z_zret rfl rfl (by omega) ?_
                  show zB _ _ _ _ _ _ [_] _ _
                  refine z_if_eq (t := 90) (pc2 := 77) rfl rfl rfl (by omega) (fun c54 => ?_) (fun c54 => by exfalso; omega)
                  refine z_aload_n (pc2 := 91) rfl rfl rfl ?_
                  refine z_bipush (pc2 := 93) rfl rfl (by decide) ?_
                  refine z_callV (y2 := 143) (as := [_]) (rest := []) (pc2 := 96) rfl rfl rfl rfl t1 rfl ?_
                  refine z_inl ?_
                  refine z_lv (lv2 := [(0, _), (1, _)]) ⟨rfl, rfl, trivial⟩ ?_
                  refine z_aload_n (pc2 := 1) rfl rfl rfl ?_
                  refine z_dup (pc2 := 2) rfl rfl rfl ?_
                  refine z_getI (pc2 := 5) 0 rfl rfl rfl rfl rfl t1 ?_
                  intro v55 e55 r55 k55
                  clear k55
                  clear e55
                  refine z_iconst (pc2 := 6) rfl rfl ?_
                  refine z_iadd (pc2 := 7) rfl rfl ?_
                  refine z_putI_any (pc2 := 10) rfl rfl rfl rfl rfl rfl t1 (fun _ _ => True.intro) (fun u56 u56r => ?_)
                  refine z_aload_n (pc2 := 11) rfl rfl rfl ?_
                  refine z_iload_n (pc2 := 12) rfl rfl rfl ?_
                  refine z_putI (pc2 := 15) rfl rfl rfl rfl rfl rfl t1 (by omega) True.intro ?_
                  refine z_iload_n (pc2 := 16) rfl rfl rfl ?_
                  refine z_iret rfl rfl ?_
                  show zB _ _ _ _ _ _ [_] _ _
                  refine z_iret rfl rfl ?_
                  exact hK _ _ _ _ _ _ _ (zCP_q ⟨zTn_rf, (zQi_u (zQi_u zQi_rf (by unfold zIr; omega)) (by unfold zIr; omega)), zQp_rf⟩ (zTm_rf _)) (by omega)
                ·
                  refine z_iconst (pc2 := 16) rfl rfl ?_
                  refine z_goto (pc2 := 20) rfl rfl ?_
                  refine z_zret rfl rfl (by omega) ?_
                  show zB _ _ _ _ _ _ [_] _ _
                  refine z_if_eq (t := 90) (pc2 := 77) rfl rfl rfl (by omega) (fun c57 => by exfalso; omega) (fun c57 => ?_)
                  refine z_aload (pc2 := 79) rfl rfl rfl ?_
                  refine z_ifnull (t := 97) (pc2 := 82) rfl rfl rfl (fun _ => ?_) (fun a h => by cases h)
                  refine z_aload_n (pc2 := 98) rfl rfl rfl ?_
                  refine z_ifnull (t := 106) (pc2 := 101) rfl rfl rfl (fun h => by cases h) (fun _ _ => ?_)
                  refine z_aload (pc2 := 103) rfl rfl rfl ?_
                  refine z_ifnonnull (t := 113) (pc2 := 106) rfl rfl rfl (fun a h => by cases h) (fun _ => ?_)
                  refine z_aload_n (pc2 := 107) rfl rfl rfl ?_
                  refine z_bipush (pc2 := 109) rfl rfl (by decide) ?_
                  refine z_callV (y2 := 143) (as := [_]) (rest := []) (pc2 := 112) rfl rfl rfl rfl t1 rfl ?_
                  refine z_inl ?_
                  refine z_lv (lv2 := [(0, _), (1, _)]) ⟨rfl, rfl, trivial⟩ ?_
                  refine z_aload_n (pc2 := 1) rfl rfl rfl ?_
                  refine z_dup (pc2 := 2) rfl rfl rfl ?_
                  refine z_getI (pc2 := 5) 0 rfl rfl rfl rfl rfl t1 ?_
                  intro v58 e58 r58 k58
                  clear k58
                  clear e58
                  refine z_iconst (pc2 := 6) rfl rfl ?_
                  refine z_iadd (pc2 := 7) rfl rfl ?_
                  refine z_putI_any (pc2 := 10) rfl rfl rfl rfl rfl rfl t1 (fun _ _ => True.intro) (fun u59 u59r => ?_)
                  refine z_aload_n (pc2 := 11) rfl rfl rfl ?_
                  refine z_iload_n (pc2 := 12) rfl rfl rfl ?_
                  refine z_putI (pc2 := 15) rfl rfl rfl rfl rfl rfl t1 (by omega) True.intro ?_
                  refine z_iload_n (pc2 := 16) rfl rfl rfl ?_
                  refine z_iret rfl rfl ?_
                  show zB _ _ _ _ _ _ [_] _ _
                  refine z_iret rfl rfl ?_
                  exact hK _ _ _ _ _ _ _ (zCP_q ⟨zTn_rf, (zQi_u (zQi_u zQi_rf (by unfold zIr; omega)) (by unfold zIr; omega)), zQp_rf⟩ (zTm_rf _)) (by omega)
            ·
              replace tq44 : _ = ((1, 9, [1, d45, n46]) : zT) := tq44
              refine zB_le tq44 trivial (fun q44l => ?_)
              refine z_astore (lv2 := [(4, _), (3, _), (0, _), (1, _), (2, _)]) (pc2 := 66) rfl rfl rfl rfl ?_
              refine z_aload_n (pc2 := 67) rfl rfl rfl ?_
              refine z_ifnull (t := 77) (pc2 := 70) rfl rfl rfl (fun h => by cases h) (fun _ _ => ?_)
              refine z_aload_n (pc2 := 71) rfl rfl rfl ?_
              refine z_callV (y2 := 85) (as := []) (rest := []) (pc2 := 74) rfl rfl rfl rfl tq15 rfl ?_
              refine z_inl ?_
              refine z_lv (lv2 := [(0, _)]) ⟨rfl, trivial⟩ ?_
              refine z_aload_n (pc2 := 1) rfl rfl rfl ?_
              refine z_getI (pc2 := 4) 0 rfl rfl rfl rfl rfl tq15 ?_
              intro v60 e60 r60 k60
              replace k60 : d16 = v60 := Eq.symm k60; clear r60 e60; subst k60
              refine z_if_eq (t := 15) (pc2 := 7) rfl rfl rfl (by omega) (fun c61 => ?_) (fun c61 => ?_)
              ·
                refine z_iconst (pc2 := 16) rfl rfl ?_
                refine z_goto (pc2 := 20) rfl rfl ?_
                refine z_zret rfl rfl (by omega) ?_
                show zB _ _ _ _ _ _ [_] _ _
                refine z_if_eq (t := 90) (pc2 := 77) rfl rfl rfl (by omega) (fun c62 => by exfalso; omega) (fun c62 => ?_)
                refine z_aload (pc2 := 79) rfl rfl rfl ?_
                refine z_ifnull (t := 97) (pc2 := 82) rfl rfl rfl (fun h => by cases h) (fun _ _ => ?_)
                refine z_aload (pc2 := 84) rfl rfl rfl ?_
                refine z_callV (y2 := 85) (as := []) (rest := []) (pc2 := 87) rfl rfl rfl rfl tq44 rfl ?_
                refine z_inl ?_
                refine z_lv (lv2 := [(0, _)]) ⟨rfl, trivial⟩ ?_
                refine z_aload_n (pc2 := 1) rfl rfl rfl ?_
                refine z_getI (pc2 := 4) 0 rfl rfl rfl rfl rfl tq44 ?_
                intro v63 e63 r63 k63
                replace k63 : d45 = v63 := Eq.symm k63; clear r63 e63; subst k63
                refine z_if_eq (t := 15) (pc2 := 7) rfl rfl rfl (by omega) (fun c64 => ?_) (fun c64 => ?_)
                ·
                  refine z_iconst (pc2 := 16) rfl rfl ?_
                  refine z_goto (pc2 := 20) rfl rfl ?_
                  refine z_zret rfl rfl (by omega) ?_
                  show zB _ _ _ _ _ _ [_] _ _
                  refine z_if_ne (t := 97) (pc2 := 90) rfl rfl rfl (by omega) (fun c65 => ?_) (fun c65 => by exfalso; omega)
                  refine z_aload_n (pc2 := 98) rfl rfl rfl ?_
                  refine z_ifnull (t := 106) (pc2 := 101) rfl rfl rfl (fun h => by cases h) (fun _ _ => ?_)
                  refine z_aload (pc2 := 103) rfl rfl rfl ?_
                  refine z_ifnonnull (t := 113) (pc2 := 106) rfl rfl rfl (fun _ _ => ?_) (fun h => by cases h)
                  refine z_aload_n (pc2 := 114) rfl rfl rfl ?_
                  refine z_getP (pc2 := 117) rfl rfl rfl rfl t1 ?_
                  intro p66 p66e p66k
                  clear p66k; replace p66e : p66 = some b10 := by rw [p66e]; first | exact p9e | exact Eq.symm p9e | (simp [zU]; first | done | exact p9e | exact Eq.symm p9e | omega)
                  subst p66e
                  refine z_callV (y2 := 77) (as := []) (rest := []) (pc2 := 120) rfl rfl rfl rfl tb10.1 rfl ?_
                  have c67 := hcr
                  obtain ⟨z67, hz67, hd67⟩ := zCR_z c67 hb10 (Eq.symm p11e)
                  have iz67 : z67 = 23 ∨ z67 = 30 ∨ z67 = 42 ∨ z67 = 49 := by omega
                  refine c_Room_keep hn hC hb10 ix12 iz67 (by omega) (c67.2.2 _ ix12) (Eq.symm p11e) hz67 (fun I67 P67 G67 k67 f67 => ?_)
                  show zB _ _ _ _ _ _ [] _ _
                  refine z_aload_n (pc2 := 121) rfl rfl rfl ?_
                  refine z_getP (pc2 := 124) rfl rfl rfl rfl t1 ?_
                  intro p68 p68e p68k
                  clear p68k; replace p68e : p68 = some b10 := by rw [p68e]; first | exact (Eq.trans p9e (Eq.symm (k67.2 _ _ (by omega)))) | exact Eq.symm (Eq.trans p9e (Eq.symm (k67.2 _ _ (by omega)))) | (simp [zU]; first | done | exact (Eq.trans p9e (Eq.symm (k67.2 _ _ (by omega)))) | exact Eq.symm (Eq.trans p9e (Eq.symm (k67.2 _ _ (by omega)))) | omega)
                  subst p68e
                  refine z_getP (pc2 := 127) rfl rfl rfl rfl tb10.1 ?_
                  intro p69 p69e p69k
                  clear p69k; replace p69e : p69 = some x12 := by rw [p69e]; first | exact (Eq.trans p11e (Eq.symm (k67.2 _ _ (by omega)))) | exact Eq.symm (Eq.trans p11e (Eq.symm (k67.2 _ _ (by omega)))) | (simp [zU]; first | done | exact (Eq.trans p11e (Eq.symm (k67.2 _ _ (by omega)))) | exact Eq.symm (Eq.trans p11e (Eq.symm (k67.2 _ _ (by omega)))) | omega)
                  subst p69e
                  refine z_getP (pc2 := 130) rfl rfl rfl rfl tx12.1 ?_
                  intro p70 p70e p70k
                  replace p70k : p70 = some (x12 + 2) := p70k; clear p70e; subst p70k
                  refine z_iload_n (pc2 := 131) rfl rfl rfl ?_
                  refine z_new (c := 9) (s := 6) (pc2 := 134) rfl rfl rfl rfl (fun _ => True.intro) (fun T71 I71 P71 G71 w71 => ?_)
                  refine z_dup (pc2 := 135) rfl rfl rfl ?_
                  refine z_aload_n (pc2 := 136) rfl rfl rfl ?_
                  refine z_aload (pc2 := 138) rfl rfl rfl ?_
                  refine z_callP (y2 := 84) (as := [_, _]) (rest := [_, _, _]) (pc2 := 141) rfl rfl rfl rfl ?_
                  refine z_inl ?_
                  refine z_lv (lv2 := [(0, _), (1, _), (2, _)]) ⟨rfl, rfl, rfl, trivial⟩ ?_
                  refine z_aload_n (pc2 := 1) rfl rfl rfl ?_
                  refine z_obj (pc2 := 4) rfl rfl rfl rfl ?_
                  refine z_aload_n (pc2 := 5) rfl rfl rfl ?_
                  refine z_iconst (pc2 := 6) rfl rfl ?_
                  refine z_putI (pc2 := 9) rfl rfl rfl rfl rfl rfl w71.2.1 (by omega) True.intro ?_
                  refine z_aload_n (pc2 := 10) rfl rfl rfl ?_
                  refine z_aload_n (pc2 := 11) rfl rfl rfl ?_
                  refine z_getP (pc2 := 14) rfl rfl rfl rfl ((w71.1 _ (by omega)).1.trans tq15) ?_
                  intro p72 p72e p72k
                  obtain ⟨q73, rfl, q739, tq73, q73b⟩ := p72k
                  replace tq73 : _ = ((1, 3, [n17]) : zT) := tq73
                  refine zB_le tq73 trivial (fun q73l => ?_)
                  refine z_putP (pc2 := 17) rfl rfl rfl rfl (by first | exact z_fitO _ _ | exact z_fitA _ _) rfl w71.2.1 True.intro ?_
                  refine z_aload_n (pc2 := 18) rfl rfl rfl ?_
                  refine z_iconst (pc2 := 19) rfl rfl ?_
                  refine z_putI (pc2 := 22) rfl rfl rfl rfl rfl rfl w71.2.1 (by omega) True.intro ?_
                  refine z_aload_n (pc2 := 23) rfl rfl rfl ?_
                  refine z_iconst (pc2 := 24) rfl rfl ?_
                  refine z_putI (pc2 := 27) rfl rfl rfl rfl rfl rfl w71.2.1 (by omega) True.intro ?_
                  refine z_aload_n (pc2 := 28) rfl rfl rfl ?_
                  refine z_aload_n (pc2 := 29) rfl rfl rfl ?_
                  refine z_putP (pc2 := 32) rfl rfl rfl rfl (by first | exact z_fitO _ _ | exact z_fitA _ _) rfl w71.2.1 True.intro ?_
                  refine z_aload_n (pc2 := 33) rfl rfl rfl ?_
                  refine z_aload_n (pc2 := 34) rfl rfl rfl ?_
                  refine z_putP (pc2 := 37) rfl rfl rfl rfl (by first | exact z_fitO _ _ | exact z_fitA _ _) rfl w71.2.1 True.intro ?_
                  refine z_ret rfl rfl ?_
                  show zB _ _ _ _ _ _ [_, _, _] _ _
                  refine zB_rtO (g := 1) (gs := [5, n17]) w71.2.1 (zSort_I (cd := 0) (by simp [zU]) (by simp [zU]) (by omega)) (zStk_P (q := q73) (a := q15) (b := q44) (by simp [zU]) (by omega) tq73 (by omega) (by simp [zU]) (by simp [zU]) (by omega) (by omega) ⟨_, _, ((w71.1 _ (by omega)).1.trans tq15), by omega, by omega⟩ ⟨_, _, ((w71.1 _ (by omega)).1.trans tq44), by omega, by omega⟩) (fun T74 r74 t74 m74 => ?_)
                  refine z_aast (pc2 := 142) rfl rfl ((r74 _ (by omega)).trans ((w71.1 _ (by omega)).1.trans tx12.2.2.1)) rfl (by omega) (by omega) (by omega) (fun b hb => by cases hb; rw [t74]; exact ⟨_, rfl, rfl⟩) (Or.inr ⟨_, rfl, by omega, _, _, t74, by omega, by omega⟩) ?_
                  refine z_aload_n (pc2 := 143) rfl rfl rfl ?_
                  refine z_getP (pc2 := 146) rfl rfl rfl rfl ((r74 _ (by omega)).trans ((w71.1 _ (by omega)).1.trans t1)) ?_
                  intro p75 p75e p75k
                  obtain ⟨b76, rfl, hb76⟩ := zHere p75k
                  have tb76 := zRm_t hC hb76
                  refine z_getP (pc2 := 149) rfl rfl rfl rfl ((r74 _ (by omega)).trans ((w71.1 _ (by omega)).1.trans tb76.1)) ?_
                  intro p77 p77e p77k
                  obtain ⟨x78, rfl, hx78⟩ := zFloorOf p77k
                  have ix78 : x78 = 23 ∨ x78 = 30 ∨ x78 = 42 ∨ x78 = 49 := by omega
                  have tx78 := zFl_t hC ix78
                  refine z_getP (pc2 := 152) rfl rfl rfl rfl ((r74 _ (by omega)).trans ((w71.1 _ (by omega)).1.trans tx78.1)) ?_
                  intro p79 p79e p79k
                  replace p79k : p79 = some (x78 + 2) := p79k; clear p79e; subst p79k
                  refine z_iload_n (pc2 := 153) rfl rfl rfl ?_
                  refine z_aconst_null (pc2 := 154) rfl rfl ?_
                  refine z_aast (pc2 := 155) rfl rfl ((r74 _ (by omega)).trans ((w71.1 _ (by omega)).1.trans tx78.2.2.1)) rfl (by omega) (by omega) (by omega) (fun b hb => by cases hb) (Or.inl rfl) ?_
                  refine z_aload_n (pc2 := 156) rfl rfl rfl ?_
                  refine z_iconst (pc2 := 157) rfl rfl ?_
                  refine z_callV (y2 := 144) (as := [_]) (rest := []) (pc2 := 160) rfl rfl rfl rfl ((r74 _ (by omega)).trans ((w71.1 _ (by omega)).1.trans t1)) rfl ?_
                  refine z_inl ?_
                  refine z_lv (lv2 := [(0, _), (1, _)]) ⟨rfl, rfl, trivial⟩ ?_
                  refine z_aload_n (pc2 := 1) rfl rfl rfl ?_
                  refine z_iconst (pc2 := 2) rfl rfl ?_
                  refine z_putI (pc2 := 5) rfl rfl rfl rfl rfl rfl ((r74 _ (by omega)).trans ((w71.1 _ (by omega)).1.trans t1)) (by omega) True.intro ?_
                  refine z_iload_n (pc2 := 6) rfl rfl rfl ?_
                  refine z_iret rfl rfl ?_
                  show zB _ _ _ _ _ _ [_] _ _
                  refine z_iret rfl rfl ?_
                  exact hK _ _ _ _ _ _ _ (zCP_tr (m := n) (zCP_keep2 (n := n) iz67 hb10 k67 f67) (zCP_q ⟨(zTn_r (zTn_n zTn_rf w71 (by omega)) r74 (by omega)), (zQi_u (zQi_u (zQi_u (zQi_u (zQi_n zQi_rf w71 (by omega)) (by unfold zIr; omega)) (by unfold zIr; omega)) (by unfold zIr; omega)) (by unfold zIr; omega)), (zQp_u (zQp_u (zQp_u (zQp_u (zQp_u (zQp_n zQp_rf w71 (by omega)) (by unfold zPr; omega)) (by unfold zPr; omega)) (by unfold zPr; omega)) (by unfold zPr; omega)) (by unfold zPr; omega))⟩ (zTm_tr (zTm_tr (zTm_rf _) (zTk_m w71.2.2.2.2)) m74)) (by omega)) (by omega)
                ·
                  refine z_aload_n (pc2 := 8) rfl rfl rfl ?_
                  refine z_getI (pc2 := 11) 0 rfl rfl rfl rfl rfl tq44 ?_
                  intro v80 e80 r80 k80
                  replace k80 : d45 = v80 := Eq.symm k80; clear r80 e80; subst k80
                  refine z_iconst (pc2 := 12) rfl rfl ?_
                  refine z_icmp_ne (t := 19) (pc2 := 15) rfl rfl rfl (by omega) (by omega) (fun c81 => ?_) (fun c81 => ?_)
                  ·
                    refine z_iconst (pc2 := 20) rfl rfl ?_
                    refine z_zret rfl rfl (by omega) ?_
                    show zB _ _ _ _ _ _ [_] _ _
                    refine z_if_ne (t := 97) (pc2 := 90) rfl rfl rfl (by omega) (fun c82 => by exfalso; omega) (fun c82 => ?_)
                    refine z_aload_n (pc2 := 91) rfl rfl rfl ?_
                    refine z_bipush (pc2 := 93) rfl rfl (by decide) ?_
                    refine z_callV (y2 := 143) (as := [_]) (rest := []) (pc2 := 96) rfl rfl rfl rfl t1 rfl ?_
                    refine z_inl ?_
                    refine z_lv (lv2 := [(0, _), (1, _)]) ⟨rfl, rfl, trivial⟩ ?_
                    refine z_aload_n (pc2 := 1) rfl rfl rfl ?_
                    refine z_dup (pc2 := 2) rfl rfl rfl ?_
                    refine z_getI (pc2 := 5) 0 rfl rfl rfl rfl rfl t1 ?_
                    intro v83 e83 r83 k83
                    clear k83
                    clear e83
                    refine z_iconst (pc2 := 6) rfl rfl ?_
                    refine z_iadd (pc2 := 7) rfl rfl ?_
                    refine z_putI_any (pc2 := 10) rfl rfl rfl rfl rfl rfl t1 (fun _ _ => True.intro) (fun u84 u84r => ?_)
                    refine z_aload_n (pc2 := 11) rfl rfl rfl ?_
                    refine z_iload_n (pc2 := 12) rfl rfl rfl ?_
                    refine z_putI (pc2 := 15) rfl rfl rfl rfl rfl rfl t1 (by omega) True.intro ?_
                    refine z_iload_n (pc2 := 16) rfl rfl rfl ?_
                    refine z_iret rfl rfl ?_
                    show zB _ _ _ _ _ _ [_] _ _
                    refine z_iret rfl rfl ?_
                    exact hK _ _ _ _ _ _ _ (zCP_q ⟨zTn_rf, (zQi_u (zQi_u zQi_rf (by unfold zIr; omega)) (by unfold zIr; omega)), zQp_rf⟩ (zTm_rf _)) (by omega)
                  ·
                    refine z_iconst (pc2 := 16) rfl rfl ?_
                    refine z_goto (pc2 := 20) rfl rfl ?_
                    refine z_zret rfl rfl (by omega) ?_
                    show zB _ _ _ _ _ _ [_] _ _
                    refine z_if_ne (t := 97) (pc2 := 90) rfl rfl rfl (by omega) (fun c85 => ?_) (fun c85 => by exfalso; omega)
                    refine z_aload_n (pc2 := 98) rfl rfl rfl ?_
                    refine z_ifnull (t := 106) (pc2 := 101) rfl rfl rfl (fun h => by cases h) (fun _ _ => ?_)
                    refine z_aload (pc2 := 103) rfl rfl rfl ?_
                    refine z_ifnonnull (t := 113) (pc2 := 106) rfl rfl rfl (fun _ _ => ?_) (fun h => by cases h)
                    refine z_aload_n (pc2 := 114) rfl rfl rfl ?_
                    refine z_getP (pc2 := 117) rfl rfl rfl rfl t1 ?_
                    intro p86 p86e p86k
                    clear p86k; replace p86e : p86 = some b10 := by rw [p86e]; first | exact p9e | exact Eq.symm p9e | (simp [zU]; first | done | exact p9e | exact Eq.symm p9e | omega)
                    subst p86e
                    refine z_callV (y2 := 77) (as := []) (rest := []) (pc2 := 120) rfl rfl rfl rfl tb10.1 rfl ?_
                    have c87 := hcr
                    obtain ⟨z87, hz87, hd87⟩ := zCR_z c87 hb10 (Eq.symm p11e)
                    have iz87 : z87 = 23 ∨ z87 = 30 ∨ z87 = 42 ∨ z87 = 49 := by omega
                    refine c_Room_keep hn hC hb10 ix12 iz87 (by omega) (c87.2.2 _ ix12) (Eq.symm p11e) hz87 (fun I87 P87 G87 k87 f87 => ?_)
                    show zB _ _ _ _ _ _ [] _ _
                    refine z_aload_n (pc2 := 121) rfl rfl rfl ?_
                    refine z_getP (pc2 := 124) rfl rfl rfl rfl t1 ?_
                    intro p88 p88e p88k
                    clear p88k; replace p88e : p88 = some b10 := by rw [p88e]; first | exact (Eq.trans p9e (Eq.symm (k87.2 _ _ (by omega)))) | exact Eq.symm (Eq.trans p9e (Eq.symm (k87.2 _ _ (by omega)))) | (simp [zU]; first | done | exact (Eq.trans p9e (Eq.symm (k87.2 _ _ (by omega)))) | exact Eq.symm (Eq.trans p9e (Eq.symm (k87.2 _ _ (by omega)))) | omega)
                    subst p88e
                    refine z_getP (pc2 := 127) rfl rfl rfl rfl tb10.1 ?_
                    intro p89 p89e p89k
                    clear p89k; replace p89e : p89 = some x12 := by rw [p89e]; first | exact (Eq.trans p11e (Eq.symm (k87.2 _ _ (by omega)))) | exact Eq.symm (Eq.trans p11e (Eq.symm (k87.2 _ _ (by omega)))) | (simp [zU]; first | done | exact (Eq.trans p11e (Eq.symm (k87.2 _ _ (by omega)))) | exact Eq.symm (Eq.trans p11e (Eq.symm (k87.2 _ _ (by omega)))) | omega)
                    subst p89e
                    refine z_getP (pc2 := 130) rfl rfl rfl rfl tx12.1 ?_
                    intro p90 p90e p90k
                    replace p90k : p90 = some (x12 + 2) := p90k; clear p90e; subst p90k
                    refine z_iload_n (pc2 := 131) rfl rfl rfl ?_
                    refine z_new (c := 9) (s := 6) (pc2 := 134) rfl rfl rfl rfl (fun _ => True.intro) (fun T91 I91 P91 G91 w91 => ?_)
                    refine z_dup (pc2 := 135) rfl rfl rfl ?_
                    refine z_aload_n (pc2 := 136) rfl rfl rfl ?_
                    refine z_aload (pc2 := 138) rfl rfl rfl ?_
                    refine z_callP (y2 := 84) (as := [_, _]) (rest := [_, _, _]) (pc2 := 141) rfl rfl rfl rfl ?_
                    refine z_inl ?_
                    refine z_lv (lv2 := [(0, _), (1, _), (2, _)]) ⟨rfl, rfl, rfl, trivial⟩ ?_
                    refine z_aload_n (pc2 := 1) rfl rfl rfl ?_
                    refine z_obj (pc2 := 4) rfl rfl rfl rfl ?_
                    refine z_aload_n (pc2 := 5) rfl rfl rfl ?_
                    refine z_iconst (pc2 := 6) rfl rfl ?_
                    refine z_putI (pc2 := 9) rfl rfl rfl rfl rfl rfl w91.2.1 (by omega) True.intro ?_
                    refine z_aload_n (pc2 := 10) rfl rfl rfl ?_
                    refine z_aload_n (pc2 := 11) rfl rfl rfl ?_
                    refine z_getP (pc2 := 14) rfl rfl rfl rfl ((w91.1 _ (by omega)).1.trans tq15) ?_
                    intro p92 p92e p92k
                    obtain ⟨q93, rfl, q939, tq93, q93b⟩ := p92k
                    replace tq93 : _ = ((1, 3, [n17]) : zT) := tq93
                    refine zB_le tq93 trivial (fun q93l => ?_)
                    refine z_putP (pc2 := 17) rfl rfl rfl rfl (by first | exact z_fitO _ _ | exact z_fitA _ _) rfl w91.2.1 True.intro ?_
                    refine z_aload_n (pc2 := 18) rfl rfl rfl ?_
                    refine z_iconst (pc2 := 19) rfl rfl ?_
                    refine z_putI (pc2 := 22) rfl rfl rfl rfl rfl rfl w91.2.1 (by omega) True.intro ?_
                    refine z_aload_n (pc2 := 23) rfl rfl rfl ?_
                    refine z_iconst (pc2 := 24) rfl rfl ?_
                    refine z_putI (pc2 := 27) rfl rfl rfl rfl rfl rfl w91.2.1 (by omega) True.intro ?_
                    refine z_aload_n (pc2 := 28) rfl rfl rfl ?_
                    refine z_aload_n (pc2 := 29) rfl rfl rfl ?_
                    refine z_putP (pc2 := 32) rfl rfl rfl rfl (by first | exact z_fitO _ _ | exact z_fitA _ _) rfl w91.2.1 True.intro ?_
                    refine z_aload_n (pc2 := 33) rfl rfl rfl ?_
                    refine z_aload_n (pc2 := 34) rfl rfl rfl ?_
                    refine z_putP (pc2 := 37) rfl rfl rfl rfl (by first | exact z_fitO _ _ | exact z_fitA _ _) rfl w91.2.1 True.intro ?_
                    refine z_ret rfl rfl ?_
                    show zB _ _ _ _ _ _ [_, _, _] _ _
                    refine zB_rtO (g := 1) (gs := [5, n17]) w91.2.1 (zSort_I (cd := 0) (by simp [zU]) (by simp [zU]) (by omega)) (zStk_P (q := q93) (a := q15) (b := q44) (by simp [zU]) (by omega) tq93 (by omega) (by simp [zU]) (by simp [zU]) (by omega) (by omega) ⟨_, _, ((w91.1 _ (by omega)).1.trans tq15), by omega, by omega⟩ ⟨_, _, ((w91.1 _ (by omega)).1.trans tq44), by omega, by omega⟩) (fun T94 r94 t94 m94 => ?_)
                    refine z_aast (pc2 := 142) rfl rfl ((r94 _ (by omega)).trans ((w91.1 _ (by omega)).1.trans tx12.2.2.1)) rfl (by omega) (by omega) (by omega) (fun b hb => by cases hb; rw [t94]; exact ⟨_, rfl, rfl⟩) (Or.inr ⟨_, rfl, by omega, _, _, t94, by omega, by omega⟩) ?_
                    refine z_aload_n (pc2 := 143) rfl rfl rfl ?_
                    refine z_getP (pc2 := 146) rfl rfl rfl rfl ((r94 _ (by omega)).trans ((w91.1 _ (by omega)).1.trans t1)) ?_
                    intro p95 p95e p95k
                    obtain ⟨b96, rfl, hb96⟩ := zHere p95k
                    have tb96 := zRm_t hC hb96
                    refine z_getP (pc2 := 149) rfl rfl rfl rfl ((r94 _ (by omega)).trans ((w91.1 _ (by omega)).1.trans tb96.1)) ?_
                    intro p97 p97e p97k
                    obtain ⟨x98, rfl, hx98⟩ := zFloorOf p97k
                    have ix98 : x98 = 23 ∨ x98 = 30 ∨ x98 = 42 ∨ x98 = 49 := by omega
                    have tx98 := zFl_t hC ix98
                    refine z_getP (pc2 := 152) rfl rfl rfl rfl ((r94 _ (by omega)).trans ((w91.1 _ (by omega)).1.trans tx98.1)) ?_
                    intro p99 p99e p99k
                    replace p99k : p99 = some (x98 + 2) := p99k; clear p99e; subst p99k
                    refine z_iload_n (pc2 := 153) rfl rfl rfl ?_
                    refine z_aconst_null (pc2 := 154) rfl rfl ?_
                    refine z_aast (pc2 := 155) rfl rfl ((r94 _ (by omega)).trans ((w91.1 _ (by omega)).1.trans tx98.2.2.1)) rfl (by omega) (by omega) (by omega) (fun b hb => by cases hb) (Or.inl rfl) ?_
                    refine z_aload_n (pc2 := 156) rfl rfl rfl ?_
                    refine z_iconst (pc2 := 157) rfl rfl ?_
                    refine z_callV (y2 := 144) (as := [_]) (rest := []) (pc2 := 160) rfl rfl rfl rfl ((r94 _ (by omega)).trans ((w91.1 _ (by omega)).1.trans t1)) rfl ?_
                    refine z_inl ?_
                    refine z_lv (lv2 := [(0, _), (1, _)]) ⟨rfl, rfl, trivial⟩ ?_
                    refine z_aload_n (pc2 := 1) rfl rfl rfl ?_
                    refine z_iconst (pc2 := 2) rfl rfl ?_
                    refine z_putI (pc2 := 5) rfl rfl rfl rfl rfl rfl ((r94 _ (by omega)).trans ((w91.1 _ (by omega)).1.trans t1)) (by omega) True.intro ?_
                    refine z_iload_n (pc2 := 6) rfl rfl rfl ?_
                    refine z_iret rfl rfl ?_
                    show zB _ _ _ _ _ _ [_] _ _
                    refine z_iret rfl rfl ?_
                    exact hK _ _ _ _ _ _ _ (zCP_tr (m := n) (zCP_keep2 (n := n) iz87 hb10 k87 f87) (zCP_q ⟨(zTn_r (zTn_n zTn_rf w91 (by omega)) r94 (by omega)), (zQi_u (zQi_u (zQi_u (zQi_u (zQi_n zQi_rf w91 (by omega)) (by unfold zIr; omega)) (by unfold zIr; omega)) (by unfold zIr; omega)) (by unfold zIr; omega)), (zQp_u (zQp_u (zQp_u (zQp_u (zQp_u (zQp_n zQp_rf w91 (by omega)) (by unfold zPr; omega)) (by unfold zPr; omega)) (by unfold zPr; omega)) (by unfold zPr; omega)) (by unfold zPr; omega))⟩ (zTm_tr (zTm_tr (zTm_rf _) (zTk_m w91.2.2.2.2)) m94)) (by omega)) (by omega)
              ·
                refine z_aload_n (pc2 := 8) rfl rfl rfl ?_
                refine z_getI (pc2 := 11) 0 rfl rfl rfl rfl rfl tq15 ?_
                intro v100 e100 r100 k100
                replace k100 : d16 = v100 := Eq.symm k100; clear r100 e100; subst k100
                refine z_iconst (pc2 := 12) rfl rfl ?_
                refine z_icmp_ne (t := 19) (pc2 := 15) rfl rfl rfl (by omega) (by omega) (fun c101 => ?_) (fun c101 => ?_)
                ·
                  refine z_iconst (pc2 := 20) rfl rfl ?_
                  refine z_zret rfl rfl (by omega) ?_
                  show zB _ _ _ _ _ _ [_] _ _
                  refine z_if_eq (t := 90) (pc2 := 77) rfl rfl rfl (by omega) (fun c102 => ?_) (fun c102 => by exfalso; omega)
                  refine z_aload_n (pc2 := 91) rfl rfl rfl ?_
                  refine z_bipush (pc2 := 93) rfl rfl (by decide) ?_
                  refine z_callV (y2 := 143) (as := [_]) (rest := []) (pc2 := 96) rfl rfl rfl rfl t1 rfl ?_
                  refine z_inl ?_
                  refine z_lv (lv2 := [(0, _), (1, _)]) ⟨rfl, rfl, trivial⟩ ?_
                  refine z_aload_n (pc2 := 1) rfl rfl rfl ?_
                  refine z_dup (pc2 := 2) rfl rfl rfl ?_
                  refine z_getI (pc2 := 5) 0 rfl rfl rfl rfl rfl t1 ?_
                  intro v103 e103 r103 k103
                  clear k103
                  clear e103
                  refine z_iconst (pc2 := 6) rfl rfl ?_
                  refine z_iadd (pc2 := 7) rfl rfl ?_
                  refine z_putI_any (pc2 := 10) rfl rfl rfl rfl rfl rfl t1 (fun _ _ => True.intro) (fun u104 u104r => ?_)
                  refine z_aload_n (pc2 := 11) rfl rfl rfl ?_
                  refine z_iload_n (pc2 := 12) rfl rfl rfl ?_
                  refine z_putI (pc2 := 15) rfl rfl rfl rfl rfl rfl t1 (by omega) True.intro ?_
                  refine z_iload_n (pc2 := 16) rfl rfl rfl ?_
                  refine z_iret rfl rfl ?_
                  show zB _ _ _ _ _ _ [_] _ _
                  refine z_iret rfl rfl ?_
                  exact hK _ _ _ _ _ _ _ (zCP_q ⟨zTn_rf, (zQi_u (zQi_u zQi_rf (by unfold zIr; omega)) (by unfold zIr; omega)), zQp_rf⟩ (zTm_rf _)) (by omega)
                ·
                  refine z_iconst (pc2 := 16) rfl rfl ?_
                  refine z_goto (pc2 := 20) rfl rfl ?_
                  refine z_zret rfl rfl (by omega) ?_
                  show zB _ _ _ _ _ _ [_] _ _
                  refine z_if_eq (t := 90) (pc2 := 77) rfl rfl rfl (by omega) (fun c105 => by exfalso; omega) (fun c105 => ?_)
                  refine z_aload (pc2 := 79) rfl rfl rfl ?_
                  refine z_ifnull (t := 97) (pc2 := 82) rfl rfl rfl (fun h => by cases h) (fun _ _ => ?_)
                  refine z_aload (pc2 := 84) rfl rfl rfl ?_
                  refine z_callV (y2 := 85) (as := []) (rest := []) (pc2 := 87) rfl rfl rfl rfl tq44 rfl ?_
                  refine z_inl ?_
                  refine z_lv (lv2 := [(0, _)]) ⟨rfl, trivial⟩ ?_
                  refine z_aload_n (pc2 := 1) rfl rfl rfl ?_
                  refine z_getI (pc2 := 4) 0 rfl rfl rfl rfl rfl tq44 ?_
                  intro v106 e106 r106 k106
                  replace k106 : d45 = v106 := Eq.symm k106; clear r106 e106; subst k106
                  refine z_if_eq (t := 15) (pc2 := 7) rfl rfl rfl (by omega) (fun c107 => ?_) (fun c107 => ?_)
                  ·
                    refine z_iconst (pc2 := 16) rfl rfl ?_
                    refine z_goto (pc2 := 20) rfl rfl ?_
                    refine z_zret rfl rfl (by omega) ?_
                    show zB _ _ _ _ _ _ [_] _ _
                    refine z_if_ne (t := 97) (pc2 := 90) rfl rfl rfl (by omega) (fun c108 => ?_) (fun c108 => by exfalso; omega)
                    refine z_aload_n (pc2 := 98) rfl rfl rfl ?_
                    refine z_ifnull (t := 106) (pc2 := 101) rfl rfl rfl (fun h => by cases h) (fun _ _ => ?_)
                    refine z_aload (pc2 := 103) rfl rfl rfl ?_
                    refine z_ifnonnull (t := 113) (pc2 := 106) rfl rfl rfl (fun _ _ => ?_) (fun h => by cases h)
                    refine z_aload_n (pc2 := 114) rfl rfl rfl ?_
                    refine z_getP (pc2 := 117) rfl rfl rfl rfl t1 ?_
                    intro p109 p109e p109k
                    clear p109k; replace p109e : p109 = some b10 := by rw [p109e]; first | exact p9e | exact Eq.symm p9e | (simp [zU]; first | done | exact p9e | exact Eq.symm p9e | omega)
                    subst p109e
                    refine z_callV (y2 := 77) (as := []) (rest := []) (pc2 := 120) rfl rfl rfl rfl tb10.1 rfl ?_
                    have c110 := hcr
                    obtain ⟨z110, hz110, hd110⟩ := zCR_z c110 hb10 (Eq.symm p11e)
                    have iz110 : z110 = 23 ∨ z110 = 30 ∨ z110 = 42 ∨ z110 = 49 := by omega
                    refine c_Room_keep hn hC hb10 ix12 iz110 (by omega) (c110.2.2 _ ix12) (Eq.symm p11e) hz110 (fun I110 P110 G110 k110 f110 => ?_)
                    show zB _ _ _ _ _ _ [] _ _
                    refine z_aload_n (pc2 := 121) rfl rfl rfl ?_
                    refine z_getP (pc2 := 124) rfl rfl rfl rfl t1 ?_
                    intro p111 p111e p111k
                    clear p111k; replace p111e : p111 = some b10 := by rw [p111e]; first | exact (Eq.trans p9e (Eq.symm (k110.2 _ _ (by omega)))) | exact Eq.symm (Eq.trans p9e (Eq.symm (k110.2 _ _ (by omega)))) | (simp [zU]; first | done | exact (Eq.trans p9e (Eq.symm (k110.2 _ _ (by omega)))) | exact Eq.symm (Eq.trans p9e (Eq.symm (k110.2 _ _ (by omega)))) | omega)
                    subst p111e
                    refine z_getP (pc2 := 127) rfl rfl rfl rfl tb10.1 ?_
                    intro p112 p112e p112k
                    clear p112k; replace p112e : p112 = some x12 := by rw [p112e]; first | exact (Eq.trans p11e (Eq.symm (k110.2 _ _ (by omega)))) | exact Eq.symm (Eq.trans p11e (Eq.symm (k110.2 _ _ (by omega)))) | (simp [zU]; first | done | exact (Eq.trans p11e (Eq.symm (k110.2 _ _ (by omega)))) | exact Eq.symm (Eq.trans p11e (Eq.symm (k110.2 _ _ (by omega)))) | omega)
                    subst p112e
                    refine z_getP (pc2 := 130) rfl rfl rfl rfl tx12.1 ?_
                    intro p113 p113e p113k
                    replace p113k : p113 = some (x12 + 2) := p113k; clear p113e; subst p113k
                    refine z_iload_n (pc2 := 131) rfl rfl rfl ?_
                    refine z_new (c := 9) (s := 6) (pc2 := 134) rfl rfl rfl rfl (fun _ => True.intro) (fun T114 I114 P114 G114 w114 => ?_)
                    refine z_dup (pc2 := 135) rfl rfl rfl ?_
                    refine z_aload_n (pc2 := 136) rfl rfl rfl ?_
                    refine z_aload (pc2 := 138) rfl rfl rfl ?_
                    refine z_callP (y2 := 84) (as := [_, _]) (rest := [_, _, _]) (pc2 := 141) rfl rfl rfl rfl ?_
                    refine z_inl ?_
                    refine z_lv (lv2 := [(0, _), (1, _), (2, _)]) ⟨rfl, rfl, rfl, trivial⟩ ?_
                    refine z_aload_n (pc2 := 1) rfl rfl rfl ?_
                    refine z_obj (pc2 := 4) rfl rfl rfl rfl ?_
                    refine z_aload_n (pc2 := 5) rfl rfl rfl ?_
                    refine z_iconst (pc2 := 6) rfl rfl ?_
                    refine z_putI (pc2 := 9) rfl rfl rfl rfl rfl rfl w114.2.1 (by omega) True.intro ?_
                    refine z_aload_n (pc2 := 10) rfl rfl rfl ?_
                    refine z_aload_n (pc2 := 11) rfl rfl rfl ?_
                    refine z_getP (pc2 := 14) rfl rfl rfl rfl ((w114.1 _ (by omega)).1.trans tq15) ?_
                    intro p115 p115e p115k
                    obtain ⟨q116, rfl, q1169, tq116, q116b⟩ := p115k
                    replace tq116 : _ = ((1, 3, [n17]) : zT) := tq116
                    refine zB_le tq116 trivial (fun q116l => ?_)
                    refine z_putP (pc2 := 17) rfl rfl rfl rfl (by first | exact z_fitO _ _ | exact z_fitA _ _) rfl w114.2.1 True.intro ?_
                    refine z_aload_n (pc2 := 18) rfl rfl rfl ?_
                    refine z_iconst (pc2 := 19) rfl rfl ?_
                    refine z_putI (pc2 := 22) rfl rfl rfl rfl rfl rfl w114.2.1 (by omega) True.intro ?_
                    refine z_aload_n (pc2 := 23) rfl rfl rfl ?_
                    refine z_iconst (pc2 := 24) rfl rfl ?_
                    refine z_putI (pc2 := 27) rfl rfl rfl rfl rfl rfl w114.2.1 (by omega) True.intro ?_
                    refine z_aload_n (pc2 := 28) rfl rfl rfl ?_
                    refine z_aload_n (pc2 := 29) rfl rfl rfl ?_
                    refine z_putP (pc2 := 32) rfl rfl rfl rfl (by first | exact z_fitO _ _ | exact z_fitA _ _) rfl w114.2.1 True.intro ?_
                    refine z_aload_n (pc2 := 33) rfl rfl rfl ?_
                    refine z_aload_n (pc2 := 34) rfl rfl rfl ?_
                    refine z_putP (pc2 := 37) rfl rfl rfl rfl (by first | exact z_fitO _ _ | exact z_fitA _ _) rfl w114.2.1 True.intro ?_
                    refine z_ret rfl rfl ?_
                    show zB _ _ _ _ _ _ [_, _, _] _ _
                    refine zB_rtO (g := 1) (gs := [5, n17]) w114.2.1 (zSort_I (cd := 0) (by simp [zU]) (by simp [zU]) (by omega)) (zStk_P (q := q116) (a := q15) (b := q44) (by simp [zU]) (by omega) tq116 (by omega) (by simp [zU]) (by simp [zU]) (by omega) (by omega) ⟨_, _, ((w114.1 _ (by omega)).1.trans tq15), by omega, by omega⟩ ⟨_, _, ((w114.1 _ (by omega)).1.trans tq44), by omega, by omega⟩) (fun T117 r117 t117 m117 => ?_)
                    refine z_aast (pc2 := 142) rfl rfl ((r117 _ (by omega)).trans ((w114.1 _ (by omega)).1.trans tx12.2.2.1)) rfl (by omega) (by omega) (by omega) (fun b hb => by cases hb; rw [t117]; exact ⟨_, rfl, rfl⟩) (Or.inr ⟨_, rfl, by omega, _, _, t117, by omega, by omega⟩) ?_
                    refine z_aload_n (pc2 := 143) rfl rfl rfl ?_
                    refine z_getP (pc2 := 146) rfl rfl rfl rfl ((r117 _ (by omega)).trans ((w114.1 _ (by omega)).1.trans t1)) ?_
                    intro p118 p118e p118k
                    obtain ⟨b119, rfl, hb119⟩ := zHere p118k
                    have tb119 := zRm_t hC hb119
                    refine z_getP (pc2 := 149) rfl rfl rfl rfl ((r117 _ (by omega)).trans ((w114.1 _ (by omega)).1.trans tb119.1)) ?_
                    intro p120 p120e p120k
                    obtain ⟨x121, rfl, hx121⟩ := zFloorOf p120k
                    have ix121 : x121 = 23 ∨ x121 = 30 ∨ x121 = 42 ∨ x121 = 49 := by omega
                    have tx121 := zFl_t hC ix121
                    refine z_getP (pc2 := 152) rfl rfl rfl rfl ((r117 _ (by omega)).trans ((w114.1 _ (by omega)).1.trans tx121.1)) ?_
                    intro p122 p122e p122k
                    replace p122k : p122 = some (x121 + 2) := p122k; clear p122e; subst p122k
                    refine z_iload_n (pc2 := 153) rfl rfl rfl ?_
                    refine z_aconst_null (pc2 := 154) rfl rfl ?_
                    refine z_aast (pc2 := 155) rfl rfl ((r117 _ (by omega)).trans ((w114.1 _ (by omega)).1.trans tx121.2.2.1)) rfl (by omega) (by omega) (by omega) (fun b hb => by cases hb) (Or.inl rfl) ?_
                    refine z_aload_n (pc2 := 156) rfl rfl rfl ?_
                    refine z_iconst (pc2 := 157) rfl rfl ?_
                    refine z_callV (y2 := 144) (as := [_]) (rest := []) (pc2 := 160) rfl rfl rfl rfl ((r117 _ (by omega)).trans ((w114.1 _ (by omega)).1.trans t1)) rfl ?_
                    refine z_inl ?_
                    refine z_lv (lv2 := [(0, _), (1, _)]) ⟨rfl, rfl, trivial⟩ ?_
                    refine z_aload_n (pc2 := 1) rfl rfl rfl ?_
                    refine z_iconst (pc2 := 2) rfl rfl ?_
                    refine z_putI (pc2 := 5) rfl rfl rfl rfl rfl rfl ((r117 _ (by omega)).trans ((w114.1 _ (by omega)).1.trans t1)) (by omega) True.intro ?_
                    refine z_iload_n (pc2 := 6) rfl rfl rfl ?_
                    refine z_iret rfl rfl ?_
                    show zB _ _ _ _ _ _ [_] _ _
                    refine z_iret rfl rfl ?_
                    exact hK _ _ _ _ _ _ _ (zCP_tr (m := n) (zCP_keep2 (n := n) iz110 hb10 k110 f110) (zCP_q ⟨(zTn_r (zTn_n zTn_rf w114 (by omega)) r117 (by omega)), (zQi_u (zQi_u (zQi_u (zQi_u (zQi_n zQi_rf w114 (by omega)) (by unfold zIr; omega)) (by unfold zIr; omega)) (by unfold zIr; omega)) (by unfold zIr; omega)), (zQp_u (zQp_u (zQp_u (zQp_u (zQp_u (zQp_n zQp_rf w114 (by omega)) (by unfold zPr; omega)) (by unfold zPr; omega)) (by unfold zPr; omega)) (by unfold zPr; omega)) (by unfold zPr; omega))⟩ (zTm_tr (zTm_tr (zTm_rf _) (zTk_m w114.2.2.2.2)) m117)) (by omega)) (by omega)
                  ·
                    refine z_aload_n (pc2 := 8) rfl rfl rfl ?_
                    refine z_getI (pc2 := 11) 0 rfl rfl rfl rfl rfl tq44 ?_
                    intro v123 e123 r123 k123
                    replace k123 : d45 = v123 := Eq.symm k123; clear r123 e123; subst k123
                    refine z_iconst (pc2 := 12) rfl rfl ?_
                    refine z_icmp_ne (t := 19) (pc2 := 15) rfl rfl rfl (by omega) (by omega) (fun c124 => ?_) (fun c124 => ?_)
                    ·
                      refine z_iconst (pc2 := 20) rfl rfl ?_
                      refine z_zret rfl rfl (by omega) ?_
                      show zB _ _ _ _ _ _ [_] _ _
                      refine z_if_ne (t := 97) (pc2 := 90) rfl rfl rfl (by omega) (fun c125 => by exfalso; omega) (fun c125 => ?_)
                      refine z_aload_n (pc2 := 91) rfl rfl rfl ?_
                      refine z_bipush (pc2 := 93) rfl rfl (by decide) ?_
                      refine z_callV (y2 := 143) (as := [_]) (rest := []) (pc2 := 96) rfl rfl rfl rfl t1 rfl ?_
                      refine z_inl ?_
                      refine z_lv (lv2 := [(0, _), (1, _)]) ⟨rfl, rfl, trivial⟩ ?_
                      refine z_aload_n (pc2 := 1) rfl rfl rfl ?_
                      refine z_dup (pc2 := 2) rfl rfl rfl ?_
                      refine z_getI (pc2 := 5) 0 rfl rfl rfl rfl rfl t1 ?_
                      intro v126 e126 r126 k126
                      clear k126
                      clear e126
                      refine z_iconst (pc2 := 6) rfl rfl ?_
                      refine z_iadd (pc2 := 7) rfl rfl ?_
                      refine z_putI_any (pc2 := 10) rfl rfl rfl rfl rfl rfl t1 (fun _ _ => True.intro) (fun u127 u127r => ?_)
                      refine z_aload_n (pc2 := 11) rfl rfl rfl ?_
                      refine z_iload_n (pc2 := 12) rfl rfl rfl ?_
                      refine z_putI (pc2 := 15) rfl rfl rfl rfl rfl rfl t1 (by omega) True.intro ?_
                      refine z_iload_n (pc2 := 16) rfl rfl rfl ?_
                      refine z_iret rfl rfl ?_
                      show zB _ _ _ _ _ _ [_] _ _
                      refine z_iret rfl rfl ?_
                      exact hK _ _ _ _ _ _ _ (zCP_q ⟨zTn_rf, (zQi_u (zQi_u zQi_rf (by unfold zIr; omega)) (by unfold zIr; omega)), zQp_rf⟩ (zTm_rf _)) (by omega)
                    ·
                      refine z_iconst (pc2 := 16) rfl rfl ?_
                      refine z_goto (pc2 := 20) rfl rfl ?_
                      refine z_zret rfl rfl (by omega) ?_
                      show zB _ _ _ _ _ _ [_] _ _
                      refine z_if_ne (t := 97) (pc2 := 90) rfl rfl rfl (by omega) (fun c128 => ?_) (fun c128 => by exfalso; omega)
                      refine z_aload_n (pc2 := 98) rfl rfl rfl ?_
                      refine z_ifnull (t := 106) (pc2 := 101) rfl rfl rfl (fun h => by cases h) (fun _ _ => ?_)
                      refine z_aload (pc2 := 103) rfl rfl rfl ?_
                      refine z_ifnonnull (t := 113) (pc2 := 106) rfl rfl rfl (fun _ _ => ?_) (fun h => by cases h)
                      refine z_aload_n (pc2 := 114) rfl rfl rfl ?_
                      refine z_getP (pc2 := 117) rfl rfl rfl rfl t1 ?_
                      intro p129 p129e p129k
                      clear p129k; replace p129e : p129 = some b10 := by rw [p129e]; first | exact p9e | exact Eq.symm p9e | (simp [zU]; first | done | exact p9e | exact Eq.symm p9e | omega)
                      subst p129e
                      refine z_callV (y2 := 77) (as := []) (rest := []) (pc2 := 120) rfl rfl rfl rfl tb10.1 rfl ?_
                      have c130 := hcr
                      obtain ⟨z130, hz130, hd130⟩ := zCR_z c130 hb10 (Eq.symm p11e)
                      have iz130 : z130 = 23 ∨ z130 = 30 ∨ z130 = 42 ∨ z130 = 49 := by omega
                      refine c_Room_keep hn hC hb10 ix12 iz130 (by omega) (c130.2.2 _ ix12) (Eq.symm p11e) hz130 (fun I130 P130 G130 k130 f130 => ?_)
                      show zB _ _ _ _ _ _ [] _ _
                      refine z_aload_n (pc2 := 121) rfl rfl rfl ?_
                      refine z_getP (pc2 := 124) rfl rfl rfl rfl t1 ?_
                      intro p131 p131e p131k
                      clear p131k; replace p131e : p131 = some b10 := by rw [p131e]; first | exact (Eq.trans p9e (Eq.symm (k130.2 _ _ (by omega)))) | exact Eq.symm (Eq.trans p9e (Eq.symm (k130.2 _ _ (by omega)))) | (simp [zU]; first | done | exact (Eq.trans p9e (Eq.symm (k130.2 _ _ (by omega)))) | exact Eq.symm (Eq.trans p9e (Eq.symm (k130.2 _ _ (by omega)))) | omega)
                      subst p131e
                      refine z_getP (pc2 := 127) rfl rfl rfl rfl tb10.1 ?_
                      intro p132 p132e p132k
                      clear p132k; replace p132e : p132 = some x12 := by rw [p132e]; first | exact (Eq.trans p11e (Eq.symm (k130.2 _ _ (by omega)))) | exact Eq.symm (Eq.trans p11e (Eq.symm (k130.2 _ _ (by omega)))) | (simp [zU]; first | done | exact (Eq.trans p11e (Eq.symm (k130.2 _ _ (by omega)))) | exact Eq.symm (Eq.trans p11e (Eq.symm (k130.2 _ _ (by omega)))) | omega)
                      subst p132e
                      refine z_getP (pc2 := 130) rfl rfl rfl rfl tx12.1 ?_
                      intro p133 p133e p133k
                      replace p133k : p133 = some (x12 + 2) := p133k; clear p133e; subst p133k
                      refine z_iload_n (pc2 := 131) rfl rfl rfl ?_
                      refine z_new (c := 9) (s := 6) (pc2 := 134) rfl rfl rfl rfl (fun _ => True.intro) (fun T134 I134 P134 G134 w134 => ?_)
                      refine z_dup (pc2 := 135) rfl rfl rfl ?_
                      refine z_aload_n (pc2 := 136) rfl rfl rfl ?_
                      refine z_aload (pc2 := 138) rfl rfl rfl ?_
                      refine z_callP (y2 := 84) (as := [_, _]) (rest := [_, _, _]) (pc2 := 141) rfl rfl rfl rfl ?_
                      refine z_inl ?_
                      refine z_lv (lv2 := [(0, _), (1, _), (2, _)]) ⟨rfl, rfl, rfl, trivial⟩ ?_
                      refine z_aload_n (pc2 := 1) rfl rfl rfl ?_
                      refine z_obj (pc2 := 4) rfl rfl rfl rfl ?_
                      refine z_aload_n (pc2 := 5) rfl rfl rfl ?_
                      refine z_iconst (pc2 := 6) rfl rfl ?_
                      refine z_putI (pc2 := 9) rfl rfl rfl rfl rfl rfl w134.2.1 (by omega) True.intro ?_
                      refine z_aload_n (pc2 := 10) rfl rfl rfl ?_
                      refine z_aload_n (pc2 := 11) rfl rfl rfl ?_
                      refine z_getP (pc2 := 14) rfl rfl rfl rfl ((w134.1 _ (by omega)).1.trans tq15) ?_
                      intro p135 p135e p135k
                      obtain ⟨q136, rfl, q1369, tq136, q136b⟩ := p135k
                      replace tq136 : _ = ((1, 3, [n17]) : zT) := tq136
                      refine zB_le tq136 trivial (fun q136l => ?_)
                      refine z_putP (pc2 := 17) rfl rfl rfl rfl (by first | exact z_fitO _ _ | exact z_fitA _ _) rfl w134.2.1 True.intro ?_
                      refine z_aload_n (pc2 := 18) rfl rfl rfl ?_
                      refine z_iconst (pc2 := 19) rfl rfl ?_
                      refine z_putI (pc2 := 22) rfl rfl rfl rfl rfl rfl w134.2.1 (by omega) True.intro ?_
                      refine z_aload_n (pc2 := 23) rfl rfl rfl ?_
                      refine z_iconst (pc2 := 24) rfl rfl ?_
                      refine z_putI (pc2 := 27) rfl rfl rfl rfl rfl rfl w134.2.1 (by omega) True.intro ?_
                      refine z_aload_n (pc2 := 28) rfl rfl rfl ?_
                      refine z_aload_n (pc2 := 29) rfl rfl rfl ?_
                      refine z_putP (pc2 := 32) rfl rfl rfl rfl (by first | exact z_fitO _ _ | exact z_fitA _ _) rfl w134.2.1 True.intro ?_
                      refine z_aload_n (pc2 := 33) rfl rfl rfl ?_
                      refine z_aload_n (pc2 := 34) rfl rfl rfl ?_
                      refine z_putP (pc2 := 37) rfl rfl rfl rfl (by first | exact z_fitO _ _ | exact z_fitA _ _) rfl w134.2.1 True.intro ?_
                      refine z_ret rfl rfl ?_
                      show zB _ _ _ _ _ _ [_, _, _] _ _
                      refine zB_rtO (g := 1) (gs := [5, n17]) w134.2.1 (zSort_I (cd := 0) (by simp [zU]) (by simp [zU]) (by omega)) (zStk_P (q := q136) (a := q15) (b := q44) (by simp [zU]) (by omega) tq136 (by omega) (by simp [zU]) (by simp [zU]) (by omega) (by omega) ⟨_, _, ((w134.1 _ (by omega)).1.trans tq15), by omega, by omega⟩ ⟨_, _, ((w134.1 _ (by omega)).1.trans tq44), by omega, by omega⟩) (fun T137 r137 t137 m137 => ?_)
                      refine z_aast (pc2 := 142) rfl rfl ((r137 _ (by omega)).trans ((w134.1 _ (by omega)).1.trans tx12.2.2.1)) rfl (by omega) (by omega) (by omega) (fun b hb => by cases hb; rw [t137]; exact ⟨_, rfl, rfl⟩) (Or.inr ⟨_, rfl, by omega, _, _, t137, by omega, by omega⟩) ?_
                      refine z_aload_n (pc2 := 143) rfl rfl rfl ?_
                      refine z_getP (pc2 := 146) rfl rfl rfl rfl ((r137 _ (by omega)).trans ((w134.1 _ (by omega)).1.trans t1)) ?_
                      intro p138 p138e p138k
                      obtain ⟨b139, rfl, hb139⟩ := zHere p138k
                      have tb139 := zRm_t hC hb139
                      refine z_getP (pc2 := 149) rfl rfl rfl rfl ((r137 _ (by omega)).trans ((w134.1 _ (by omega)).1.trans tb139.1)) ?_
                      intro p140 p140e p140k
                      obtain ⟨x141, rfl, hx141⟩ := zFloorOf p140k
                      have ix141 : x141 = 23 ∨ x141 = 30 ∨ x141 = 42 ∨ x141 = 49 := by omega
                      have tx141 := zFl_t hC ix141
                      refine z_getP (pc2 := 152) rfl rfl rfl rfl ((r137 _ (by omega)).trans ((w134.1 _ (by omega)).1.trans tx141.1)) ?_
                      intro p142 p142e p142k
                      replace p142k : p142 = some (x141 + 2) := p142k; clear p142e; subst p142k
                      refine z_iload_n (pc2 := 153) rfl rfl rfl ?_
                      refine z_aconst_null (pc2 := 154) rfl rfl ?_
                      refine z_aast (pc2 := 155) rfl rfl ((r137 _ (by omega)).trans ((w134.1 _ (by omega)).1.trans tx141.2.2.1)) rfl (by omega) (by omega) (by omega) (fun b hb => by cases hb) (Or.inl rfl) ?_
                      refine z_aload_n (pc2 := 156) rfl rfl rfl ?_
                      refine z_iconst (pc2 := 157) rfl rfl ?_
                      refine z_callV (y2 := 144) (as := [_]) (rest := []) (pc2 := 160) rfl rfl rfl rfl ((r137 _ (by omega)).trans ((w134.1 _ (by omega)).1.trans t1)) rfl ?_
                      refine z_inl ?_
                      refine z_lv (lv2 := [(0, _), (1, _)]) ⟨rfl, rfl, trivial⟩ ?_
                      refine z_aload_n (pc2 := 1) rfl rfl rfl ?_
                      refine z_iconst (pc2 := 2) rfl rfl ?_
                      refine z_putI (pc2 := 5) rfl rfl rfl rfl rfl rfl ((r137 _ (by omega)).trans ((w134.1 _ (by omega)).1.trans t1)) (by omega) True.intro ?_
                      refine z_iload_n (pc2 := 6) rfl rfl rfl ?_
                      refine z_iret rfl rfl ?_
                      show zB _ _ _ _ _ _ [_] _ _
                      refine z_iret rfl rfl ?_
                      exact hK _ _ _ _ _ _ _ (zCP_tr (m := n) (zCP_keep2 (n := n) iz130 hb10 k130 f130) (zCP_q ⟨(zTn_r (zTn_n zTn_rf w134 (by omega)) r137 (by omega)), (zQi_u (zQi_u (zQi_u (zQi_u (zQi_n zQi_rf w134 (by omega)) (by unfold zIr; omega)) (by unfold zIr; omega)) (by unfold zIr; omega)) (by unfold zIr; omega)), (zQp_u (zQp_u (zQp_u (zQp_u (zQp_u (zQp_n zQp_rf w134 (by omega)) (by unfold zPr; omega)) (by unfold zPr; omega)) (by unfold zPr; omega)) (by unfold zPr; omega)) (by unfold zPr; omega))⟩ (zTm_tr (zTm_tr (zTm_rf _) (zTk_m w134.2.2.2.2)) m137)) (by omega)) (by omega)
        ·
          refine z_iconst (pc2 := 11) rfl rfl ?_
          refine z_goto (pc2 := 15) rfl rfl ?_
          refine z_zret rfl rfl (by omega) ?_
          show zB _ _ _ _ _ _ [_] _ _
          refine z_if_eq (t := 39) (pc2 := 32) rfl rfl rfl (by omega) (fun c143 => by exfalso; omega) (fun c143 => ?_)
          refine z_aload_n (pc2 := 33) rfl rfl rfl ?_
          refine z_bipush (pc2 := 35) rfl rfl (by decide) ?_
          refine z_callV (y2 := 142) (as := [_]) (rest := []) (pc2 := 38) rfl rfl rfl rfl t1 rfl ?_
          refine z_inl ?_
          refine z_lv (lv2 := [(0, _), (1, _)]) ⟨rfl, rfl, trivial⟩ ?_
          refine z_aload_n (pc2 := 1) rfl rfl rfl ?_
          refine z_iload_n (pc2 := 2) rfl rfl rfl ?_
          refine z_putI (pc2 := 5) rfl rfl rfl rfl rfl rfl t1 (by omega) True.intro ?_
          refine z_iload_n (pc2 := 6) rfl rfl rfl ?_
          refine z_iret rfl rfl ?_
          show zB _ _ _ _ _ _ [_] _ _
          refine z_iret rfl rfl ?_
          exact hK _ _ _ _ _ _ _ (zCP_q ⟨zTn_rf, (zQi_u zQi_rf (by unfold zIr; omega)), zQp_rf⟩ (zTm_rf _)) (by omega)
      ·
        refine z_aload_n (pc2 := 20) rfl rfl rfl ?_
        refine z_iconst (pc2 := 21) rfl rfl ?_
        refine z_callV (y2 := 142) (as := [_]) (rest := []) (pc2 := 24) rfl rfl rfl rfl t1 rfl ?_
        refine z_inl ?_
        refine z_lv (lv2 := [(0, _), (1, _)]) ⟨rfl, rfl, trivial⟩ ?_
        refine z_aload_n (pc2 := 1) rfl rfl rfl ?_
        refine z_iload_n (pc2 := 2) rfl rfl rfl ?_
        refine z_putI (pc2 := 5) rfl rfl rfl rfl rfl rfl t1 (by omega) True.intro ?_
        refine z_iload_n (pc2 := 6) rfl rfl rfl ?_
        refine z_iret rfl rfl ?_
        show zB _ _ _ _ _ _ [_] _ _
        refine z_iret rfl rfl ?_
        exact hK _ _ _ _ _ _ _ (zCP_q ⟨zTn_rf, (zQi_u zQi_rf (by unfold zIr; omega)), zQp_rf⟩ (zTm_rf _)) (by omega)
set_option maxHeartbeats 8000000 in
theorem c_TypeRoom_added {L : Nat} {xs : Nat → Int32} {n sl : Nat} {T : Nat → zT} {I : Nat → Nat → Int} {P : Nat → Nat → Option Nat} {G : Nat → Nat → Int} {K : List zV → zH → Prop} {a c : Int} (hn : 90 ≤ n) (hC : ∀ a, 1 ≤ a → a ≤ 55 → T a = zFixC a) (ha : zR a) (hc : zR c) (hcr : zCR T I P) (hK : ∀ e n2 sl2 T2 I2 P2 G2, zCP n T T2 I I2 P P2 → (n ≤ n2 ∧ n2 ≤ n + 1 ∧ sl2 ≤ sl + 6) → K [.inl e] (n2, sl2, T2, I2, P2, G2)) : zX zMd L xs 122 [.inr (.inl (some 1)), .inl a, .inl c] (n, sl, T, I, P, G) K := by
  have t1 : T 1 = (1, 11, [1]) := hC 1 (by decide) (by decide)
  refine z_inl ?_
  refine z_lv (lv2 := [(0, _), (1, _), (2, _)]) ⟨rfl, rfl, rfl, trivial⟩ ?_
  refine z_iload_n (pc2 := 1) rfl rfl rfl ?_
  refine z_callS (y2 := 153) (as := [_]) (rest := []) (pc2 := 4) rfl rfl rfl rfl ?_
  refine z_inl ?_
  refine z_lv (lv2 := [(0, _)]) ⟨rfl, trivial⟩ ?_
  refine z_iload_n (pc2 := 1) rfl rfl rfl ?_
  refine z_iconst (pc2 := 2) rfl rfl ?_
  refine z_bipush (pc2 := 4) rfl rfl (by decide) ?_
  refine z_callS (y2 := 155) (as := [_, _, _]) (rest := []) (pc2 := 7) rfl rfl rfl rfl ?_
  refine c_TypeRoom_isOutside (by omega) (by omega) (by omega) (fun e1 e1a e1b e1c => ?_)
  show zB _ _ _ _ _ _ [_] _ _
  refine z_zret rfl rfl (by omega) ?_
  show zB _ _ _ _ _ _ [_] _ _
  refine z_if_ne (t := 17) (pc2 := 7) rfl rfl rfl (by omega) (fun c2 => ?_) (fun c2 => ?_)
  ·
    refine z_aload_n (pc2 := 18) rfl rfl rfl ?_
    refine z_iconst (pc2 := 19) rfl rfl ?_
    refine z_callV (y2 := 142) (as := [_]) (rest := []) (pc2 := 22) rfl rfl rfl rfl t1 rfl ?_
    refine z_inl ?_
    refine z_lv (lv2 := [(0, _), (1, _)]) ⟨rfl, rfl, trivial⟩ ?_
    refine z_aload_n (pc2 := 1) rfl rfl rfl ?_
    refine z_iload_n (pc2 := 2) rfl rfl rfl ?_
    refine z_putI (pc2 := 5) rfl rfl rfl rfl rfl rfl t1 (by omega) True.intro ?_
    refine z_iload_n (pc2 := 6) rfl rfl rfl ?_
    refine z_iret rfl rfl ?_
    show zB _ _ _ _ _ _ [_] _ _
    refine z_iret rfl rfl ?_
    exact hK _ _ _ _ _ _ _ (zCP_q ⟨zTn_rf, (zQi_u zQi_rf (by unfold zIr; omega)), zQp_rf⟩ (zTm_rf _)) (by omega)
  ·
    refine z_iload_n (pc2 := 8) rfl rfl rfl ?_
    refine z_iconst (pc2 := 9) rfl rfl ?_
    refine z_bipush (pc2 := 11) rfl rfl (by decide) ?_
    refine z_callS (y2 := 155) (as := [_, _, _]) (rest := []) (pc2 := 14) rfl rfl rfl rfl ?_
    refine c_TypeRoom_isOutside (by omega) (by omega) (by omega) (fun e3 e3a e3b e3c => ?_)
    show zB _ _ _ _ _ _ [_] _ _
    refine z_if_eq (t := 23) (pc2 := 17) rfl rfl rfl (by omega) (fun c4 => ?_) (fun c4 => ?_)
    ·
      refine z_aload_n (pc2 := 24) rfl rfl rfl ?_
      refine z_callV (y2 := 148) (as := []) (rest := []) (pc2 := 27) rfl rfl rfl rfl t1 rfl ?_
      refine z_inl ?_
      refine z_lv (lv2 := [(0, _)]) ⟨rfl, trivial⟩ ?_
      refine z_aload_n (pc2 := 1) rfl rfl rfl ?_
      refine z_getI (pc2 := 4) 0 rfl rfl rfl rfl rfl t1 ?_
      intro v5 e5 r5 k5
      clear k5
      clear e5
      refine z_sipush (pc2 := 7) rfl rfl (by decide) ?_
      refine z_icmp_lt (t := 14) (pc2 := 10) rfl rfl rfl (by omega) (by omega) (fun c6 => ?_) (fun c6 => ?_)
      ·
        refine z_iconst (pc2 := 15) rfl rfl ?_
        refine z_zret rfl rfl (by omega) ?_
        show zB _ _ _ _ _ _ [_] _ _
        refine z_if_eq (t := 37) (pc2 := 30) rfl rfl rfl (by omega) (fun c7 => ?_) (fun c7 => by exfalso; omega)
        refine z_aload_n (pc2 := 38) rfl rfl rfl ?_
        refine z_getP (pc2 := 41) rfl rfl rfl rfl t1 ?_
        intro p8 p8e p8k
        obtain ⟨b9, rfl, hb9⟩ := zHere p8k
        have tb9 := zRm_t hC hb9
        refine z_getP (pc2 := 44) rfl rfl rfl rfl tb9.1 ?_
        intro p10 p10e p10k
        obtain ⟨x11, rfl, hx11⟩ := zFloorOf p10k
        have ix11 : x11 = 23 ∨ x11 = 30 ∨ x11 = 42 ∨ x11 = 49 := by omega
        have tx11 := zFl_t hC ix11
        refine z_getP (pc2 := 47) rfl rfl rfl rfl tx11.1 ?_
        intro p12 p12e p12k
        replace p12k : p12 = some (x11 + 2) := p12k; clear p12e; subst p12k
        refine z_iload_n (pc2 := 48) rfl rfl rfl ?_
        refine z_aald (pc2 := 49) rfl rfl tx11.2.2.1 rfl (by omega) (by omega) (by omega) ?_
        intro p13 p13e p13k
        rcases p13k with rfl | ⟨q14, rfl, q149, d15, n16, tq14, q14c, q14b⟩
        ·
          refine z_astore_n (lv2 := [(3, _), (0, _), (1, _), (2, _)]) (pc2 := 50) rfl rfl rfl rfl ?_
          refine z_aload_n (pc2 := 51) rfl rfl rfl ?_
          refine z_ifnonnull (t := 61) (pc2 := 54) rfl rfl rfl (fun a h => by cases h) (fun _ => ?_)
          refine z_aload_n (pc2 := 55) rfl rfl rfl ?_
          refine z_bipush (pc2 := 57) rfl rfl (by decide) ?_
          refine z_callV (y2 := 143) (as := [_]) (rest := []) (pc2 := 60) rfl rfl rfl rfl t1 rfl ?_
          refine z_inl ?_
          refine z_lv (lv2 := [(0, _), (1, _)]) ⟨rfl, rfl, trivial⟩ ?_
          refine z_aload_n (pc2 := 1) rfl rfl rfl ?_
          refine z_dup (pc2 := 2) rfl rfl rfl ?_
          refine z_getI (pc2 := 5) 0 rfl rfl rfl rfl rfl t1 ?_
          intro v17 e17 r17 k17
          clear k17
          clear e17
          refine z_iconst (pc2 := 6) rfl rfl ?_
          refine z_iadd (pc2 := 7) rfl rfl ?_
          refine z_putI_any (pc2 := 10) rfl rfl rfl rfl rfl rfl t1 (fun _ _ => True.intro) (fun u18 u18r => ?_)
          refine z_aload_n (pc2 := 11) rfl rfl rfl ?_
          refine z_iload_n (pc2 := 12) rfl rfl rfl ?_
          refine z_putI (pc2 := 15) rfl rfl rfl rfl rfl rfl t1 (by omega) True.intro ?_
          refine z_iload_n (pc2 := 16) rfl rfl rfl ?_
          refine z_iret rfl rfl ?_
          show zB _ _ _ _ _ _ [_] _ _
          refine z_iret rfl rfl ?_
          exact hK _ _ _ _ _ _ _ (zCP_q ⟨zTn_rf, (zQi_u (zQi_u zQi_rf (by unfold zIr; omega)) (by unfold zIr; omega)), zQp_rf⟩ (zTm_rf _)) (by omega)
        ·
          replace tq14 : _ = ((1, 9, [1, d15, n16]) : zT) := tq14
          refine zB_le tq14 trivial (fun q14l => ?_)
          refine z_astore_n (lv2 := [(3, _), (0, _), (1, _), (2, _)]) (pc2 := 50) rfl rfl rfl rfl ?_
          refine z_aload_n (pc2 := 51) rfl rfl rfl ?_
          refine z_ifnonnull (t := 61) (pc2 := 54) rfl rfl rfl (fun _ _ => ?_) (fun h => by cases h)
          refine z_aload_n (pc2 := 62) rfl rfl rfl ?_
          refine z_callV (y2 := 86) (as := []) (rest := []) (pc2 := 65) rfl rfl rfl rfl tq14 rfl ?_
          refine z_inl ?_
          refine z_lv (lv2 := [(0, _)]) ⟨rfl, trivial⟩ ?_
          refine z_aload_n (pc2 := 1) rfl rfl rfl ?_
          refine z_getI (pc2 := 4) 0 rfl rfl rfl rfl rfl tq14 ?_
          intro v19 e19 r19 k19
          replace k19 : d15 = v19 := Eq.symm k19; clear r19 e19; subst k19
          refine z_iconst (pc2 := 5) rfl rfl ?_
          refine z_icmp_eq (t := 16) (pc2 := 8) rfl rfl rfl (by omega) (by omega) (fun c20 => ?_) (fun c20 => ?_)
          ·
            refine z_iconst (pc2 := 17) rfl rfl ?_
            refine z_goto (pc2 := 21) rfl rfl ?_
            refine z_zret rfl rfl (by omega) ?_
            show zB _ _ _ _ _ _ [_] _ _
            refine z_if_ne (t := 75) (pc2 := 68) rfl rfl rfl (by omega) (fun c21 => ?_) (fun c21 => by exfalso; omega)
            refine z_aload_n (pc2 := 76) rfl rfl rfl ?_
            refine z_getP (pc2 := 79) rfl rfl rfl rfl t1 ?_
            intro p22 p22e p22k
            clear p22k; replace p22e : p22 = some b9 := by rw [p22e]; first | exact p8e | exact Eq.symm p8e | (simp [zU]; first | done | exact p8e | exact Eq.symm p8e | omega)
            subst p22e
            refine z_callV (y2 := 77) (as := []) (rest := []) (pc2 := 82) rfl rfl rfl rfl tb9.1 rfl ?_
            have c23 := hcr
            obtain ⟨z23, hz23, hd23⟩ := zCR_z c23 hb9 (Eq.symm p10e)
            have iz23 : z23 = 23 ∨ z23 = 30 ∨ z23 = 42 ∨ z23 = 49 := by omega
            refine c_Room_keep hn hC hb9 ix11 iz23 (by omega) (c23.2.2 _ ix11) (Eq.symm p10e) hz23 (fun I23 P23 G23 k23 f23 => ?_)
            show zB _ _ _ _ _ _ [] _ _
            refine z_aload_n (pc2 := 83) rfl rfl rfl ?_
            refine z_getP (pc2 := 86) rfl rfl rfl rfl t1 ?_
            intro p24 p24e p24k
            clear p24k; replace p24e : p24 = some b9 := by rw [p24e]; first | exact (Eq.trans p8e (Eq.symm (k23.2 _ _ (by omega)))) | exact Eq.symm (Eq.trans p8e (Eq.symm (k23.2 _ _ (by omega)))) | (simp [zU]; first | done | exact (Eq.trans p8e (Eq.symm (k23.2 _ _ (by omega)))) | exact Eq.symm (Eq.trans p8e (Eq.symm (k23.2 _ _ (by omega)))) | omega)
            subst p24e
            refine z_getP (pc2 := 89) rfl rfl rfl rfl tb9.1 ?_
            intro p25 p25e p25k
            clear p25k; replace p25e : p25 = some x11 := by rw [p25e]; first | exact (Eq.trans p10e (Eq.symm (k23.2 _ _ (by omega)))) | exact Eq.symm (Eq.trans p10e (Eq.symm (k23.2 _ _ (by omega)))) | (simp [zU]; first | done | exact (Eq.trans p10e (Eq.symm (k23.2 _ _ (by omega)))) | exact Eq.symm (Eq.trans p10e (Eq.symm (k23.2 _ _ (by omega)))) | omega)
            subst p25e
            refine z_getP (pc2 := 92) rfl rfl rfl rfl tx11.1 ?_
            intro p26 p26e p26k
            replace p26k : p26 = some (x11 + 2) := p26k; clear p26e; subst p26k
            refine z_iload_n (pc2 := 93) rfl rfl rfl ?_
            refine z_new (c := 9) (s := 6) (pc2 := 96) rfl rfl rfl rfl (fun _ => True.intro) (fun T27 I27 P27 G27 w27 => ?_)
            refine z_dup (pc2 := 97) rfl rfl rfl ?_
            refine z_aload_n (pc2 := 98) rfl rfl rfl ?_
            refine z_getI (pc2 := 101) 0 rfl rfl rfl rfl rfl ((w27.1 _ (by omega)).1.trans tq14) ?_
            intro v28 e28 r28 k28
            replace k28 : d15 = v28 := Eq.symm k28; clear r28 e28; subst k28
            refine z_aload_n (pc2 := 102) rfl rfl rfl ?_
            refine z_getP (pc2 := 105) rfl rfl rfl rfl ((w27.1 _ (by omega)).1.trans tq14) ?_
            intro p29 p29e p29k
            obtain ⟨q30, rfl, q309, tq30, q30b⟩ := p29k
            replace tq30 : _ = ((1, 3, [n16]) : zT) := tq30
            refine zB_le tq30 trivial (fun q30l => ?_)
            refine z_aload_n (pc2 := 106) rfl rfl rfl ?_
            refine z_getI (pc2 := 109) 0 rfl rfl rfl rfl rfl ((w27.1 _ (by omega)).1.trans tq14) ?_
            intro v31 e31 r31 k31
            replace k31 : (d15 = 0 → 0 ≤ v31 ∧ v31 < n16) ∧ (d15 = 1 → 0 ≤ v31 ∧ v31 ≤ 5) ∧ (d15 = 4 → 0 ≤ v31 ∧ v31 ≤ 3) := k31
            clear e31
            refine z_iload_n (pc2 := 110) rfl rfl rfl ?_
            refine z_callP (y2 := 83) (as := [_, _, _, _]) (rest := [_, _, _]) (pc2 := 113) rfl rfl rfl rfl ?_
            refine z_inl ?_
            refine z_lv (lv2 := [(0, _), (1, _), (2, _), (3, _), (4, _)]) ⟨rfl, rfl, rfl, rfl, rfl, trivial⟩ ?_
            refine z_aload_n (pc2 := 1) rfl rfl rfl ?_
            refine z_obj (pc2 := 4) rfl rfl rfl rfl ?_
            refine z_aload_n (pc2 := 5) rfl rfl rfl ?_
            refine z_iload_n (pc2 := 6) rfl rfl rfl ?_
            refine z_putI (pc2 := 9) rfl rfl rfl rfl rfl rfl w27.2.1 (by omega) True.intro ?_
            refine z_aload_n (pc2 := 10) rfl rfl rfl ?_
            refine z_aload_n (pc2 := 11) rfl rfl rfl ?_
            refine z_putP (pc2 := 14) rfl rfl rfl rfl (by first | exact z_fitO _ _ | exact z_fitA _ _) rfl w27.2.1 True.intro ?_
            refine z_aload_n (pc2 := 15) rfl rfl rfl ?_
            refine z_iload_n (pc2 := 16) rfl rfl rfl ?_
            refine z_putI (pc2 := 19) rfl rfl rfl rfl rfl rfl w27.2.1 (by omega) True.intro ?_
            refine z_aload_n (pc2 := 20) rfl rfl rfl ?_
            refine z_iload (pc2 := 22) rfl rfl rfl ?_
            refine z_putI (pc2 := 25) rfl rfl rfl rfl rfl rfl w27.2.1 (by omega) True.intro ?_
            refine z_aload_n (pc2 := 26) rfl rfl rfl ?_
            refine z_aconst_null (pc2 := 27) rfl rfl ?_
            refine z_putP (pc2 := 30) rfl rfl rfl rfl (by first | exact z_fitO _ _ | exact z_fitA _ _) rfl w27.2.1 True.intro ?_
            refine z_aload_n (pc2 := 31) rfl rfl rfl ?_
            refine z_aconst_null (pc2 := 32) rfl rfl ?_
            refine z_putP (pc2 := 35) rfl rfl rfl rfl (by first | exact z_fitO _ _ | exact z_fitA _ _) rfl w27.2.1 True.intro ?_
            refine z_ret rfl rfl ?_
            show zB _ _ _ _ _ _ [_, _, _] _ _
            refine zB_rtO (g := 1) (gs := [d15, n16]) w27.2.1 (zSort_I (cd := (v31)) (by simp [zU]) (by simp [zU]) (by omega)) (zSort_P (q := q30) (by simp [zU]) (by omega) tq30 (by omega) (by simp [zU]) (by simp [zU]) (by omega)) (fun T32 r32 t32 m32 => ?_)
            refine z_aast (pc2 := 114) rfl rfl ((r32 _ (by omega)).trans ((w27.1 _ (by omega)).1.trans tx11.2.2.1)) rfl (by omega) (by omega) (by omega) (fun b hb => by cases hb; rw [t32]; exact ⟨_, rfl, rfl⟩) (Or.inr ⟨_, rfl, by omega, _, _, t32, by omega, by omega⟩) ?_
            refine z_aload_n (pc2 := 115) rfl rfl rfl ?_
            refine z_iconst (pc2 := 116) rfl rfl ?_
            refine z_callV (y2 := 144) (as := [_]) (rest := []) (pc2 := 119) rfl rfl rfl rfl ((r32 _ (by omega)).trans ((w27.1 _ (by omega)).1.trans t1)) rfl ?_
            refine z_inl ?_
            refine z_lv (lv2 := [(0, _), (1, _)]) ⟨rfl, rfl, trivial⟩ ?_
            refine z_aload_n (pc2 := 1) rfl rfl rfl ?_
            refine z_iconst (pc2 := 2) rfl rfl ?_
            refine z_putI (pc2 := 5) rfl rfl rfl rfl rfl rfl ((r32 _ (by omega)).trans ((w27.1 _ (by omega)).1.trans t1)) (by omega) True.intro ?_
            refine z_iload_n (pc2 := 6) rfl rfl rfl ?_
            refine z_iret rfl rfl ?_
            show zB _ _ _ _ _ _ [_] _ _
            refine z_iret rfl rfl ?_
            exact hK _ _ _ _ _ _ _ (zCP_tr (m := n) (zCP_keep2 (n := n) iz23 hb9 k23 f23) (zCP_q ⟨(zTn_r (zTn_n zTn_rf w27 (by omega)) r32 (by omega)), (zQi_u (zQi_u (zQi_u (zQi_u (zQi_n zQi_rf w27 (by omega)) (by unfold zIr; omega)) (by unfold zIr; omega)) (by unfold zIr; omega)) (by unfold zIr; omega)), (zQp_u (zQp_u (zQp_u (zQp_u (zQp_n zQp_rf w27 (by omega)) (by unfold zPr; omega)) (by unfold zPr; omega)) (by unfold zPr; omega)) (by unfold zPr; omega))⟩ (zTm_tr (zTm_tr (zTm_rf _) (zTk_m w27.2.2.2.2)) m32)) (by omega)) (by omega)
          ·
            refine z_aload_n (pc2 := 9) rfl rfl rfl ?_
            refine z_getI (pc2 := 12) 0 rfl rfl rfl rfl rfl tq14 ?_
            intro v33 e33 r33 k33
            replace k33 : d15 = v33 := Eq.symm k33; clear r33 e33; subst k33
            refine z_iconst (pc2 := 13) rfl rfl ?_
            refine z_icmp_ne (t := 20) (pc2 := 16) rfl rfl rfl (by omega) (by omega) (fun c34 => ?_) (fun c34 => ?_)
            ·
              refine z_iconst (pc2 := 21) rfl rfl ?_
              refine z_zret rfl rfl (by omega) ?_
              show zB _ _ _ _ _ _ [_] _ _
              refine z_if_ne (t := 75) (pc2 := 68) rfl rfl rfl (by omega) (fun c35 => by exfalso; omega) (fun c35 => ?_)
              refine z_aload_n (pc2 := 69) rfl rfl rfl ?_
              refine z_bipush (pc2 := 71) rfl rfl (by decide) ?_
              refine z_callV (y2 := 143) (as := [_]) (rest := []) (pc2 := 74) rfl rfl rfl rfl t1 rfl ?_
              refine z_inl ?_
              refine z_lv (lv2 := [(0, _), (1, _)]) ⟨rfl, rfl, trivial⟩ ?_
              refine z_aload_n (pc2 := 1) rfl rfl rfl ?_
              refine z_dup (pc2 := 2) rfl rfl rfl ?_
              refine z_getI (pc2 := 5) 0 rfl rfl rfl rfl rfl t1 ?_
              intro v36 e36 r36 k36
              clear k36
              clear e36
              refine z_iconst (pc2 := 6) rfl rfl ?_
              refine z_iadd (pc2 := 7) rfl rfl ?_
              refine z_putI_any (pc2 := 10) rfl rfl rfl rfl rfl rfl t1 (fun _ _ => True.intro) (fun u37 u37r => ?_)
              refine z_aload_n (pc2 := 11) rfl rfl rfl ?_
              refine z_iload_n (pc2 := 12) rfl rfl rfl ?_
              refine z_putI (pc2 := 15) rfl rfl rfl rfl rfl rfl t1 (by omega) True.intro ?_
              refine z_iload_n (pc2 := 16) rfl rfl rfl ?_
              refine z_iret rfl rfl ?_
              show zB _ _ _ _ _ _ [_] _ _
              refine z_iret rfl rfl ?_
              exact hK _ _ _ _ _ _ _ (zCP_q ⟨zTn_rf, (zQi_u (zQi_u zQi_rf (by unfold zIr; omega)) (by unfold zIr; omega)), zQp_rf⟩ (zTm_rf _)) (by omega)
            ·
              refine z_iconst (pc2 := 17) rfl rfl ?_
              refine z_goto (pc2 := 21) rfl rfl ?_
              refine z_zret rfl rfl (by omega) ?_
              show zB _ _ _ _ _ _ [_] _ _
              refine z_if_ne (t := 75) (pc2 := 68) rfl rfl rfl (by omega) (fun c38 => ?_) (fun c38 => by exfalso; omega)
              refine z_aload_n (pc2 := 76) rfl rfl rfl ?_
              refine z_getP (pc2 := 79) rfl rfl rfl rfl t1 ?_
              intro p39 p39e p39k
              clear p39k; replace p39e : p39 = some b9 := by rw [p39e]; first | exact p8e | exact Eq.symm p8e | (simp [zU]; first | done | exact p8e | exact Eq.symm p8e | omega)
              subst p39e
              refine z_callV (y2 := 77) (as := []) (rest := []) (pc2 := 82) rfl rfl rfl rfl tb9.1 rfl ?_
              have c40 := hcr
              obtain ⟨z40, hz40, hd40⟩ := zCR_z c40 hb9 (Eq.symm p10e)
              have iz40 : z40 = 23 ∨ z40 = 30 ∨ z40 = 42 ∨ z40 = 49 := by omega
              refine c_Room_keep hn hC hb9 ix11 iz40 (by omega) (c40.2.2 _ ix11) (Eq.symm p10e) hz40 (fun I40 P40 G40 k40 f40 => ?_)
              show zB _ _ _ _ _ _ [] _ _
              refine z_aload_n (pc2 := 83) rfl rfl rfl ?_
              refine z_getP (pc2 := 86) rfl rfl rfl rfl t1 ?_
              intro p41 p41e p41k
              clear p41k; replace p41e : p41 = some b9 := by rw [p41e]; first | exact (Eq.trans p8e (Eq.symm (k40.2 _ _ (by omega)))) | exact Eq.symm (Eq.trans p8e (Eq.symm (k40.2 _ _ (by omega)))) | (simp [zU]; first | done | exact (Eq.trans p8e (Eq.symm (k40.2 _ _ (by omega)))) | exact Eq.symm (Eq.trans p8e (Eq.symm (k40.2 _ _ (by omega)))) | omega)
              subst p41e
              refine z_getP (pc2 := 89) rfl rfl rfl rfl tb9.1 ?_
              intro p42 p42e p42k
              clear p42k; replace p42e : p42 = some x11 := by rw [p42e]; first | exact (Eq.trans p10e (Eq.symm (k40.2 _ _ (by omega)))) | exact Eq.symm (Eq.trans p10e (Eq.symm (k40.2 _ _ (by omega)))) | (simp [zU]; first | done | exact (Eq.trans p10e (Eq.symm (k40.2 _ _ (by omega)))) | exact Eq.symm (Eq.trans p10e (Eq.symm (k40.2 _ _ (by omega)))) | omega)
              subst p42e
              refine z_getP (pc2 := 92) rfl rfl rfl rfl tx11.1 ?_
              intro p43 p43e p43k
              replace p43k : p43 = some (x11 + 2) := p43k; clear p43e; subst p43k
              refine z_iload_n (pc2 := 93) rfl rfl rfl ?_
              refine z_new (c := 9) (s := 6) (pc2 := 96) rfl rfl rfl rfl (fun _ => True.intro) (fun T44 I44 P44 G44 w44 => ?_)
              refine z_dup (pc2 := 97) rfl rfl rfl ?_
              refine z_aload_n (pc2 := 98) rfl rfl rfl ?_
              refine z_getI (pc2 := 101) 0 rfl rfl rfl rfl rfl ((w44.1 _ (by omega)).1.trans tq14) ?_
              intro v45 e45 r45 k45
              replace k45 : d15 = v45 := Eq.symm k45; clear r45 e45; subst k45
              refine z_aload_n (pc2 := 102) rfl rfl rfl ?_
              refine z_getP (pc2 := 105) rfl rfl rfl rfl ((w44.1 _ (by omega)).1.trans tq14) ?_
              intro p46 p46e p46k
              obtain ⟨q47, rfl, q479, tq47, q47b⟩ := p46k
              replace tq47 : _ = ((1, 3, [n16]) : zT) := tq47
              refine zB_le tq47 trivial (fun q47l => ?_)
              refine z_aload_n (pc2 := 106) rfl rfl rfl ?_
              refine z_getI (pc2 := 109) 0 rfl rfl rfl rfl rfl ((w44.1 _ (by omega)).1.trans tq14) ?_
              intro v48 e48 r48 k48
              replace k48 : (d15 = 0 → 0 ≤ v48 ∧ v48 < n16) ∧ (d15 = 1 → 0 ≤ v48 ∧ v48 ≤ 5) ∧ (d15 = 4 → 0 ≤ v48 ∧ v48 ≤ 3) := k48
              clear e48
              refine z_iload_n (pc2 := 110) rfl rfl rfl ?_
              refine z_callP (y2 := 83) (as := [_, _, _, _]) (rest := [_, _, _]) (pc2 := 113) rfl rfl rfl rfl ?_
              refine z_inl ?_
              refine z_lv (lv2 := [(0, _), (1, _), (2, _), (3, _), (4, _)]) ⟨rfl, rfl, rfl, rfl, rfl, trivial⟩ ?_
              refine z_aload_n (pc2 := 1) rfl rfl rfl ?_
              refine z_obj (pc2 := 4) rfl rfl rfl rfl ?_
              refine z_aload_n (pc2 := 5) rfl rfl rfl ?_
              refine z_iload_n (pc2 := 6) rfl rfl rfl ?_
              refine z_putI (pc2 := 9) rfl rfl rfl rfl rfl rfl w44.2.1 (by omega) True.intro ?_
              refine z_aload_n (pc2 := 10) rfl rfl rfl ?_
              refine z_aload_n (pc2 := 11) rfl rfl rfl ?_
              refine z_putP (pc2 := 14) rfl rfl rfl rfl (by first | exact z_fitO _ _ | exact z_fitA _ _) rfl w44.2.1 True.intro ?_
              refine z_aload_n (pc2 := 15) rfl rfl rfl ?_
              refine z_iload_n (pc2 := 16) rfl rfl rfl ?_
              refine z_putI (pc2 := 19) rfl rfl rfl rfl rfl rfl w44.2.1 (by omega) True.intro ?_
              refine z_aload_n (pc2 := 20) rfl rfl rfl ?_
              refine z_iload (pc2 := 22) rfl rfl rfl ?_
              refine z_putI (pc2 := 25) rfl rfl rfl rfl rfl rfl w44.2.1 (by omega) True.intro ?_
              refine z_aload_n (pc2 := 26) rfl rfl rfl ?_
              refine z_aconst_null (pc2 := 27) rfl rfl ?_
              refine z_putP (pc2 := 30) rfl rfl rfl rfl (by first | exact z_fitO _ _ | exact z_fitA _ _) rfl w44.2.1 True.intro ?_
              refine z_aload_n (pc2 := 31) rfl rfl rfl ?_
              refine z_aconst_null (pc2 := 32) rfl rfl ?_
              refine z_putP (pc2 := 35) rfl rfl rfl rfl (by first | exact z_fitO _ _ | exact z_fitA _ _) rfl w44.2.1 True.intro ?_
              refine z_ret rfl rfl ?_
              show zB _ _ _ _ _ _ [_, _, _] _ _
              refine zB_rtO (g := 1) (gs := [d15, n16]) w44.2.1 (zSort_I (cd := (v48)) (by simp [zU]) (by simp [zU]) (by omega)) (zSort_P (q := q47) (by simp [zU]) (by omega) tq47 (by omega) (by simp [zU]) (by simp [zU]) (by omega)) (fun T49 r49 t49 m49 => ?_)
              refine z_aast (pc2 := 114) rfl rfl ((r49 _ (by omega)).trans ((w44.1 _ (by omega)).1.trans tx11.2.2.1)) rfl (by omega) (by omega) (by omega) (fun b hb => by cases hb; rw [t49]; exact ⟨_, rfl, rfl⟩) (Or.inr ⟨_, rfl, by omega, _, _, t49, by omega, by omega⟩) ?_
              refine z_aload_n (pc2 := 115) rfl rfl rfl ?_
              refine z_iconst (pc2 := 116) rfl rfl ?_
              refine z_callV (y2 := 144) (as := [_]) (rest := []) (pc2 := 119) rfl rfl rfl rfl ((r49 _ (by omega)).trans ((w44.1 _ (by omega)).1.trans t1)) rfl ?_
              refine z_inl ?_
              refine z_lv (lv2 := [(0, _), (1, _)]) ⟨rfl, rfl, trivial⟩ ?_
              refine z_aload_n (pc2 := 1) rfl rfl rfl ?_
              refine z_iconst (pc2 := 2) rfl rfl ?_
              refine z_putI (pc2 := 5) rfl rfl rfl rfl rfl rfl ((r49 _ (by omega)).trans ((w44.1 _ (by omega)).1.trans t1)) (by omega) True.intro ?_
              refine z_iload_n (pc2 := 6) rfl rfl rfl ?_
              refine z_iret rfl rfl ?_
              show zB _ _ _ _ _ _ [_] _ _
              refine z_iret rfl rfl ?_
              exact hK _ _ _ _ _ _ _ (zCP_tr (m := n) (zCP_keep2 (n := n) iz40 hb9 k40 f40) (zCP_q ⟨(zTn_r (zTn_n zTn_rf w44 (by omega)) r49 (by omega)), (zQi_u (zQi_u (zQi_u (zQi_u (zQi_n zQi_rf w44 (by omega)) (by unfold zIr; omega)) (by unfold zIr; omega)) (by unfold zIr; omega)) (by unfold zIr; omega)), (zQp_u (zQp_u (zQp_u (zQp_u (zQp_n zQp_rf w44 (by omega)) (by unfold zPr; omega)) (by unfold zPr; omega)) (by unfold zPr; omega)) (by unfold zPr; omega))⟩ (zTm_tr (zTm_tr (zTm_rf _) (zTk_m w44.2.2.2.2)) m49)) (by omega)) (by omega)
      ·
        refine z_iconst (pc2 := 11) rfl rfl ?_
        refine z_goto (pc2 := 15) rfl rfl ?_
        refine z_zret rfl rfl (by omega) ?_
        show zB _ _ _ _ _ _ [_] _ _
        refine z_if_eq (t := 37) (pc2 := 30) rfl rfl rfl (by omega) (fun c50 => by exfalso; omega) (fun c50 => ?_)
        refine z_aload_n (pc2 := 31) rfl rfl rfl ?_
        refine z_bipush (pc2 := 33) rfl rfl (by decide) ?_
        refine z_callV (y2 := 142) (as := [_]) (rest := []) (pc2 := 36) rfl rfl rfl rfl t1 rfl ?_
        refine z_inl ?_
        refine z_lv (lv2 := [(0, _), (1, _)]) ⟨rfl, rfl, trivial⟩ ?_
        refine z_aload_n (pc2 := 1) rfl rfl rfl ?_
        refine z_iload_n (pc2 := 2) rfl rfl rfl ?_
        refine z_putI (pc2 := 5) rfl rfl rfl rfl rfl rfl t1 (by omega) True.intro ?_
        refine z_iload_n (pc2 := 6) rfl rfl rfl ?_
        refine z_iret rfl rfl ?_
        show zB _ _ _ _ _ _ [_] _ _
        refine z_iret rfl rfl ?_
        exact hK _ _ _ _ _ _ _ (zCP_q ⟨zTn_rf, (zQi_u zQi_rf (by unfold zIr; omega)), zQp_rf⟩ (zTm_rf _)) (by omega)
    ·
      refine z_aload_n (pc2 := 18) rfl rfl rfl ?_
      refine z_iconst (pc2 := 19) rfl rfl ?_
      refine z_callV (y2 := 142) (as := [_]) (rest := []) (pc2 := 22) rfl rfl rfl rfl t1 rfl ?_
      refine z_inl ?_
      refine z_lv (lv2 := [(0, _), (1, _)]) ⟨rfl, rfl, trivial⟩ ?_
      refine z_aload_n (pc2 := 1) rfl rfl rfl ?_
      refine z_iload_n (pc2 := 2) rfl rfl rfl ?_
      refine z_putI (pc2 := 5) rfl rfl rfl rfl rfl rfl t1 (by omega) True.intro ?_
      refine z_iload_n (pc2 := 6) rfl rfl rfl ?_
      refine z_iret rfl rfl ?_
      show zB _ _ _ _ _ _ [_] _ _
      refine z_iret rfl rfl ?_
      exact hK _ _ _ _ _ _ _ (zCP_q ⟨zTn_rf, (zQi_u zQi_rf (by unfold zIr; omega)), zQp_rf⟩ (zTm_rf _)) (by omega)
set_option maxHeartbeats 8000000 in
theorem c_TypeRoom_tray {L : Nat} {xs : Nat → Int32} {n sl : Nat} {T : Nat → zT} {I : Nat → Nat → Int} {P : Nat → Nat → Option Nat} {G : Nat → Nat → Int} {K : List zV → zH → Prop} {a c : Int} (hn : 90 ≤ n) (hC : ∀ a, 1 ≤ a → a ≤ 55 → T a = zFixC a) (ha : zR a) (hc : zR c) (hcr : zCR T I P) (hK : ∀ e n2 sl2 T2 I2 P2 G2, zCP n T T2 I I2 P P2 → (n ≤ n2 ∧ n2 ≤ n + 0 ∧ sl2 ≤ sl + 0) → K [.inl e] (n2, sl2, T2, I2, P2, G2)) : zX zMd L xs 123 [.inr (.inl (some 1)), .inl a, .inl c] (n, sl, T, I, P, G) K := by
  have t1 : T 1 = (1, 11, [1]) := hC 1 (by decide) (by decide)
  refine z_inl ?_
  refine z_lv (lv2 := [(0, _), (1, _), (2, _)]) ⟨rfl, rfl, rfl, trivial⟩ ?_
  refine z_iload_n (pc2 := 1) rfl rfl rfl ?_
  refine z_iconst (pc2 := 2) rfl rfl ?_
  refine z_iconst (pc2 := 3) rfl rfl ?_
  refine z_callS (y2 := 155) (as := [_, _, _]) (rest := []) (pc2 := 6) rfl rfl rfl rfl ?_
  refine c_TypeRoom_isOutside (by omega) (by omega) (by omega) (fun e1 e1a e1b e1c => ?_)
  show zB _ _ _ _ _ _ [_] _ _
  refine z_if_ne (t := 15) (pc2 := 9) rfl rfl rfl (by omega) (fun c2 => ?_) (fun c2 => ?_)
  ·
    refine z_aload_n (pc2 := 16) rfl rfl rfl ?_
    refine z_iconst (pc2 := 17) rfl rfl ?_
    refine z_callV (y2 := 142) (as := [_]) (rest := []) (pc2 := 20) rfl rfl rfl rfl t1 rfl ?_
    refine z_inl ?_
    refine z_lv (lv2 := [(0, _), (1, _)]) ⟨rfl, rfl, trivial⟩ ?_
    refine z_aload_n (pc2 := 1) rfl rfl rfl ?_
    refine z_iload_n (pc2 := 2) rfl rfl rfl ?_
    refine z_putI (pc2 := 5) rfl rfl rfl rfl rfl rfl t1 (by omega) True.intro ?_
    refine z_iload_n (pc2 := 6) rfl rfl rfl ?_
    refine z_iret rfl rfl ?_
    show zB _ _ _ _ _ _ [_] _ _
    refine z_iret rfl rfl ?_
    exact hK _ _ _ _ _ _ _ (zCP_q ⟨zTn_rf, (zQi_u zQi_rf (by unfold zIr; omega)), zQp_rf⟩ (zTm_rf _)) (by omega)
  ·
    refine z_iload_n (pc2 := 10) rfl rfl rfl ?_
    refine z_bipush (pc2 := 12) rfl rfl (by decide) ?_
    refine z_icmp_le (t := 21) (pc2 := 15) rfl rfl rfl (by omega) (by omega) (fun c3 => ?_) (fun c3 => ?_)
    ·
      refine z_aload_n (pc2 := 22) rfl rfl rfl ?_
      refine z_getP (pc2 := 25) rfl rfl rfl rfl t1 ?_
      intro p4 p4e p4k
      obtain ⟨b5, rfl, hb5⟩ := zHere p4k
      have tb5 := zRm_t hC hb5
      refine z_getP (pc2 := 28) rfl rfl rfl rfl tb5.1 ?_
      intro p6 p6e p6k
      obtain ⟨x7, rfl, hx7⟩ := zFloorOf p6k
      have ix7 : x7 = 23 ∨ x7 = 30 ∨ x7 = 42 ∨ x7 = 49 := by omega
      have tx7 := zFl_t hC ix7
      refine z_callV (y2 := 25) (as := []) (rest := []) (pc2 := 31) rfl rfl rfl rfl tx7.1 rfl ?_
      refine c_Floor_hasSortInTray hn hC (by omega) (fun w8 w8r => ?_)
      show zB _ _ _ _ _ _ [_] _ _
      refine z_if_eq (t := 41) (pc2 := 34) rfl rfl rfl (by omega) (fun c9 => ?_) (fun c9 => ?_)
      ·
        refine z_aload_n (pc2 := 42) rfl rfl rfl ?_
        refine z_callV (y2 := 148) (as := []) (rest := []) (pc2 := 45) rfl rfl rfl rfl t1 rfl ?_
        refine z_inl ?_
        refine z_lv (lv2 := [(0, _)]) ⟨rfl, trivial⟩ ?_
        refine z_aload_n (pc2 := 1) rfl rfl rfl ?_
        refine z_getI (pc2 := 4) 0 rfl rfl rfl rfl rfl t1 ?_
        intro v10 e10 r10 k10
        clear k10
        clear e10
        refine z_sipush (pc2 := 7) rfl rfl (by decide) ?_
        refine z_icmp_lt (t := 14) (pc2 := 10) rfl rfl rfl (by omega) (by omega) (fun c11 => ?_) (fun c11 => ?_)
        ·
          refine z_iconst (pc2 := 15) rfl rfl ?_
          refine z_zret rfl rfl (by omega) ?_
          show zB _ _ _ _ _ _ [_] _ _
          refine z_if_eq (t := 55) (pc2 := 48) rfl rfl rfl (by omega) (fun c12 => ?_) (fun c12 => by exfalso; omega)
          refine z_iload_n (pc2 := 56) rfl rfl rfl ?_
          refine z_if_ge (t := 66) (pc2 := 59) rfl rfl rfl (by omega) (fun c13 => ?_) (fun c13 => ?_)
          ·
            refine z_aload_n (pc2 := 67) rfl rfl rfl ?_
            refine z_getP (pc2 := 70) rfl rfl rfl rfl t1 ?_
            intro p14 p14e p14k
            clear p14k; replace p14e : p14 = some b5 := by rw [p14e]; first | exact p4e | exact Eq.symm p4e | (simp [zU]; first | done | exact p4e | exact Eq.symm p4e | omega)
            subst p14e
            refine z_callV (y2 := 77) (as := []) (rest := []) (pc2 := 73) rfl rfl rfl rfl tb5.1 rfl ?_
            have c15 := hcr
            obtain ⟨z15, hz15, hd15⟩ := zCR_z c15 hb5 (Eq.symm p6e)
            have iz15 : z15 = 23 ∨ z15 = 30 ∨ z15 = 42 ∨ z15 = 49 := by omega
            refine c_Room_keep hn hC hb5 ix7 iz15 (by omega) (c15.2.2 _ ix7) (Eq.symm p6e) hz15 (fun I15 P15 G15 k15 f15 => ?_)
            show zB _ _ _ _ _ _ [] _ _
            refine z_aload_n (pc2 := 74) rfl rfl rfl ?_
            refine z_getP (pc2 := 77) rfl rfl rfl rfl t1 ?_
            intro p16 p16e p16k
            clear p16k; replace p16e : p16 = some b5 := by rw [p16e]; first | exact (Eq.trans p4e (Eq.symm (k15.2 _ _ (by omega)))) | exact Eq.symm (Eq.trans p4e (Eq.symm (k15.2 _ _ (by omega)))) | (simp [zU]; first | done | exact (Eq.trans p4e (Eq.symm (k15.2 _ _ (by omega)))) | exact Eq.symm (Eq.trans p4e (Eq.symm (k15.2 _ _ (by omega)))) | omega)
            subst p16e
            refine z_getP (pc2 := 80) rfl rfl rfl rfl tb5.1 ?_
            intro p17 p17e p17k
            clear p17k; replace p17e : p17 = some x7 := by rw [p17e]; first | exact (Eq.trans p6e (Eq.symm (k15.2 _ _ (by omega)))) | exact Eq.symm (Eq.trans p6e (Eq.symm (k15.2 _ _ (by omega)))) | (simp [zU]; first | done | exact (Eq.trans p6e (Eq.symm (k15.2 _ _ (by omega)))) | exact Eq.symm (Eq.trans p6e (Eq.symm (k15.2 _ _ (by omega)))) | omega)
            subst p17e
            refine z_iload_n (pc2 := 81) rfl rfl rfl ?_
            refine z_putI (pc2 := 84) rfl rfl rfl rfl rfl rfl tx7.1 (by omega) True.intro ?_
            refine z_aload_n (pc2 := 85) rfl rfl rfl ?_
            refine z_getP (pc2 := 88) rfl rfl rfl rfl t1 ?_
            intro p18 p18e p18k
            clear p18k; replace p18e : p18 = some b5 := by rw [p18e]; first | exact (Eq.trans p4e (Eq.symm (k15.2 _ _ (by omega)))) | exact Eq.symm (Eq.trans p4e (Eq.symm (k15.2 _ _ (by omega)))) | (simp [zU]; first | done | exact (Eq.trans p4e (Eq.symm (k15.2 _ _ (by omega)))) | exact Eq.symm (Eq.trans p4e (Eq.symm (k15.2 _ _ (by omega)))) | omega)
            subst p18e
            refine z_getP (pc2 := 91) rfl rfl rfl rfl tb5.1 ?_
            intro p19 p19e p19k
            clear p19k; replace p19e : p19 = some x7 := by rw [p19e]; first | exact (Eq.trans p6e (Eq.symm (k15.2 _ _ (by omega)))) | exact Eq.symm (Eq.trans p6e (Eq.symm (k15.2 _ _ (by omega)))) | (simp [zU]; first | done | exact (Eq.trans p6e (Eq.symm (k15.2 _ _ (by omega)))) | exact Eq.symm (Eq.trans p6e (Eq.symm (k15.2 _ _ (by omega)))) | omega)
            subst p19e
            refine z_iload_n (pc2 := 92) rfl rfl rfl ?_
            refine z_putI (pc2 := 95) rfl rfl rfl rfl rfl rfl tx7.1 (by omega) (by show (-1 : Int) ≤ _ ∧ _ ≤ 8; omega) ?_
            refine z_aload_n (pc2 := 96) rfl rfl rfl ?_
            refine z_iconst (pc2 := 97) rfl rfl ?_
            refine z_callV (y2 := 144) (as := [_]) (rest := []) (pc2 := 100) rfl rfl rfl rfl t1 rfl ?_
            refine z_inl ?_
            refine z_lv (lv2 := [(0, _), (1, _)]) ⟨rfl, rfl, trivial⟩ ?_
            refine z_aload_n (pc2 := 1) rfl rfl rfl ?_
            refine z_iconst (pc2 := 2) rfl rfl ?_
            refine z_putI (pc2 := 5) rfl rfl rfl rfl rfl rfl t1 (by omega) True.intro ?_
            refine z_iload_n (pc2 := 6) rfl rfl rfl ?_
            refine z_iret rfl rfl ?_
            show zB _ _ _ _ _ _ [_] _ _
            refine z_iret rfl rfl ?_
            exact hK _ _ _ _ _ _ _ (zCP_tr (m := n) (zCP_keep2 (n := n) iz15 hb5 k15 f15) (zCP_q ⟨zTn_rf, (zQi_u (zQi_u (zQi_u zQi_rf (by unfold zIr; omega)) (by unfold zIr; omega)) (by unfold zIr; omega)), zQp_rf⟩ (zTm_rf _)) (by omega)) (by omega)
          ·
            refine z_aload_n (pc2 := 60) rfl rfl rfl ?_
            refine z_bipush (pc2 := 62) rfl rfl (by decide) ?_
            refine z_callV (y2 := 143) (as := [_]) (rest := []) (pc2 := 65) rfl rfl rfl rfl t1 rfl ?_
            refine z_inl ?_
            refine z_lv (lv2 := [(0, _), (1, _)]) ⟨rfl, rfl, trivial⟩ ?_
            refine z_aload_n (pc2 := 1) rfl rfl rfl ?_
            refine z_dup (pc2 := 2) rfl rfl rfl ?_
            refine z_getI (pc2 := 5) 0 rfl rfl rfl rfl rfl t1 ?_
            intro v20 e20 r20 k20
            clear k20
            clear e20
            refine z_iconst (pc2 := 6) rfl rfl ?_
            refine z_iadd (pc2 := 7) rfl rfl ?_
            refine z_putI_any (pc2 := 10) rfl rfl rfl rfl rfl rfl t1 (fun _ _ => True.intro) (fun u21 u21r => ?_)
            refine z_aload_n (pc2 := 11) rfl rfl rfl ?_
            refine z_iload_n (pc2 := 12) rfl rfl rfl ?_
            refine z_putI (pc2 := 15) rfl rfl rfl rfl rfl rfl t1 (by omega) True.intro ?_
            refine z_iload_n (pc2 := 16) rfl rfl rfl ?_
            refine z_iret rfl rfl ?_
            show zB _ _ _ _ _ _ [_] _ _
            refine z_iret rfl rfl ?_
            exact hK _ _ _ _ _ _ _ (zCP_q ⟨zTn_rf, (zQi_u (zQi_u zQi_rf (by unfold zIr; omega)) (by unfold zIr; omega)), zQp_rf⟩ (zTm_rf _)) (by omega)
        ·
          refine z_iconst (pc2 := 11) rfl rfl ?_
          refine z_goto (pc2 := 15) rfl rfl ?_
          refine z_zret rfl rfl (by omega) ?_
          show zB _ _ _ _ _ _ [_] _ _
          refine z_if_eq (t := 55) (pc2 := 48) rfl rfl rfl (by omega) (fun c22 => by exfalso; omega) (fun c22 => ?_)
          refine z_aload_n (pc2 := 49) rfl rfl rfl ?_
          refine z_bipush (pc2 := 51) rfl rfl (by decide) ?_
          refine z_callV (y2 := 142) (as := [_]) (rest := []) (pc2 := 54) rfl rfl rfl rfl t1 rfl ?_
          refine z_inl ?_
          refine z_lv (lv2 := [(0, _), (1, _)]) ⟨rfl, rfl, trivial⟩ ?_
          refine z_aload_n (pc2 := 1) rfl rfl rfl ?_
          refine z_iload_n (pc2 := 2) rfl rfl rfl ?_
          refine z_putI (pc2 := 5) rfl rfl rfl rfl rfl rfl t1 (by omega) True.intro ?_
          refine z_iload_n (pc2 := 6) rfl rfl rfl ?_
          refine z_iret rfl rfl ?_
          show zB _ _ _ _ _ _ [_] _ _
          refine z_iret rfl rfl ?_
          exact hK _ _ _ _ _ _ _ (zCP_q ⟨zTn_rf, (zQi_u zQi_rf (by unfold zIr; omega)), zQp_rf⟩ (zTm_rf _)) (by omega)
      ·
        refine z_aload_n (pc2 := 35) rfl rfl rfl ?_
        refine z_bipush (pc2 := 37) rfl rfl (by decide) ?_
        refine z_callV (y2 := 142) (as := [_]) (rest := []) (pc2 := 40) rfl rfl rfl rfl t1 rfl ?_
        refine z_inl ?_
        refine z_lv (lv2 := [(0, _), (1, _)]) ⟨rfl, rfl, trivial⟩ ?_
        refine z_aload_n (pc2 := 1) rfl rfl rfl ?_
        refine z_iload_n (pc2 := 2) rfl rfl rfl ?_
        refine z_putI (pc2 := 5) rfl rfl rfl rfl rfl rfl t1 (by omega) True.intro ?_
        refine z_iload_n (pc2 := 6) rfl rfl rfl ?_
        refine z_iret rfl rfl ?_
        show zB _ _ _ _ _ _ [_] _ _
        refine z_iret rfl rfl ?_
        exact hK _ _ _ _ _ _ _ (zCP_q ⟨zTn_rf, (zQi_u zQi_rf (by unfold zIr; omega)), zQp_rf⟩ (zTm_rf _)) (by omega)
    ·
      refine z_aload_n (pc2 := 16) rfl rfl rfl ?_
      refine z_iconst (pc2 := 17) rfl rfl ?_
      refine z_callV (y2 := 142) (as := [_]) (rest := []) (pc2 := 20) rfl rfl rfl rfl t1 rfl ?_
      refine z_inl ?_
      refine z_lv (lv2 := [(0, _), (1, _)]) ⟨rfl, rfl, trivial⟩ ?_
      refine z_aload_n (pc2 := 1) rfl rfl rfl ?_
      refine z_iload_n (pc2 := 2) rfl rfl rfl ?_
      refine z_putI (pc2 := 5) rfl rfl rfl rfl rfl rfl t1 (by omega) True.intro ?_
      refine z_iload_n (pc2 := 6) rfl rfl rfl ?_
      refine z_iret rfl rfl ?_
      show zB _ _ _ _ _ _ [_] _ _
      refine z_iret rfl rfl ?_
      exact hK _ _ _ _ _ _ _ (zCP_q ⟨zTn_rf, (zQi_u zQi_rf (by unfold zIr; omega)), zQp_rf⟩ (zTm_rf _)) (by omega)
set_option maxHeartbeats 8000000 in
theorem c_TypeRoom_lay {L : Nat} {xs : Nat → Int32} {n sl : Nat} {T : Nat → zT} {I : Nat → Nat → Int} {P : Nat → Nat → Option Nat} {G : Nat → Nat → Int} {K : List zV → zH → Prop} {a c : Int} (hn : 90 ≤ n) (hC : ∀ a, 1 ≤ a → a ≤ 55 → T a = zFixC a) (ha : zR a) (hc : zR c) (hcr : zCR T I P) (hK : ∀ e n2 sl2 T2 I2 P2 G2, zCP n T T2 I I2 P P2 → (n ≤ n2 ∧ n2 ≤ n + 0 ∧ sl2 ≤ sl + 0) → K [.inl e] (n2, sl2, T2, I2, P2, G2)) : zX zMd L xs 124 [.inr (.inl (some 1)), .inl a, .inl c] (n, sl, T, I, P, G) K := by
  have t1 : T 1 = (1, 11, [1]) := hC 1 (by decide) (by decide)
  refine z_inl ?_
  refine z_lv (lv2 := [(0, _), (1, _), (2, _)]) ⟨rfl, rfl, rfl, trivial⟩ ?_
  refine z_iload_n (pc2 := 1) rfl rfl rfl ?_
  refine z_callS (y2 := 153) (as := [_]) (rest := []) (pc2 := 4) rfl rfl rfl rfl ?_
  refine z_inl ?_
  refine z_lv (lv2 := [(0, _)]) ⟨rfl, trivial⟩ ?_
  refine z_iload_n (pc2 := 1) rfl rfl rfl ?_
  refine z_iconst (pc2 := 2) rfl rfl ?_
  refine z_bipush (pc2 := 4) rfl rfl (by decide) ?_
  refine z_callS (y2 := 155) (as := [_, _, _]) (rest := []) (pc2 := 7) rfl rfl rfl rfl ?_
  refine c_TypeRoom_isOutside (by omega) (by omega) (by omega) (fun e1 e1a e1b e1c => ?_)
  show zB _ _ _ _ _ _ [_] _ _
  refine z_zret rfl rfl (by omega) ?_
  show zB _ _ _ _ _ _ [_] _ _
  refine z_if_eq (t := 13) (pc2 := 7) rfl rfl rfl (by omega) (fun c2 => ?_) (fun c2 => ?_)
  ·
    refine z_aload_n (pc2 := 14) rfl rfl rfl ?_
    refine z_getP (pc2 := 17) rfl rfl rfl rfl t1 ?_
    intro p3 p3e p3k
    obtain ⟨b4, rfl, hb4⟩ := zHere p3k
    have tb4 := zRm_t hC hb4
    refine z_getP (pc2 := 20) rfl rfl rfl rfl tb4.1 ?_
    intro p5 p5e p5k
    obtain ⟨x6, rfl, hx6⟩ := zFloorOf p5k
    have ix6 : x6 = 23 ∨ x6 = 30 ∨ x6 = 42 ∨ x6 = 49 := by omega
    have tx6 := zFl_t hC ix6
    refine z_astore_n (lv2 := [(3, _), (0, _), (1, _), (2, _)]) (pc2 := 21) rfl rfl rfl rfl ?_
    refine z_aload_n (pc2 := 22) rfl rfl rfl ?_
    refine z_iload_n (pc2 := 23) rfl rfl rfl ?_
    refine z_callV (y2 := 24) (as := [_]) (rest := []) (pc2 := 26) rfl rfl rfl rfl tx6.1 rfl ?_
    refine z_inl ?_
    refine z_lv (lv2 := [(0, _), (1, _)]) ⟨rfl, rfl, trivial⟩ ?_
    refine z_iload_n (pc2 := 1) rfl rfl rfl ?_
    refine z_if_lt (t := 16) (pc2 := 4) rfl rfl rfl (by omega) (fun c7 => ?_) (fun c7 => ?_)
    ·
      refine z_iconst (pc2 := 17) rfl rfl ?_
      refine z_zret rfl rfl (by omega) ?_
      show zB _ _ _ _ _ _ [_] _ _
      refine z_if_eq (t := 45) (pc2 := 29) rfl rfl rfl (by omega) (fun c8 => ?_) (fun c8 => by exfalso; omega)
      refine z_aload_n (pc2 := 46) rfl rfl rfl ?_
      refine z_callV (y2 := 148) (as := []) (rest := []) (pc2 := 49) rfl rfl rfl rfl t1 rfl ?_
      refine z_inl ?_
      refine z_lv (lv2 := [(0, _)]) ⟨rfl, trivial⟩ ?_
      refine z_aload_n (pc2 := 1) rfl rfl rfl ?_
      refine z_getI (pc2 := 4) 0 rfl rfl rfl rfl rfl t1 ?_
      intro v9 e9 r9 k9
      clear k9
      clear e9
      refine z_sipush (pc2 := 7) rfl rfl (by decide) ?_
      refine z_icmp_lt (t := 14) (pc2 := 10) rfl rfl rfl (by omega) (by omega) (fun c10 => ?_) (fun c10 => ?_)
      ·
        refine z_iconst (pc2 := 15) rfl rfl ?_
        refine z_zret rfl rfl (by omega) ?_
        show zB _ _ _ _ _ _ [_] _ _
        refine z_if_eq (t := 59) (pc2 := 52) rfl rfl rfl (by omega) (fun c11 => ?_) (fun c11 => by exfalso; omega)
        refine z_aload_n (pc2 := 60) rfl rfl rfl ?_
        refine z_getI (pc2 := 63) 0 rfl rfl rfl rfl rfl tx6.1 ?_
        intro v12 e12 r12 k12
        replace k12 : (-1 : Int) ≤ v12 ∧ v12 ≤ 8 := k12
        clear e12
        refine z_if_ge (t := 73) (pc2 := 66) rfl rfl rfl (by omega) (fun c13 => ?_) (fun c13 => ?_)
        ·
          refine z_aload_n (pc2 := 74) rfl rfl rfl ?_
          refine z_iload_n (pc2 := 75) rfl rfl rfl ?_
          refine z_callV (y2 := 24) (as := [_]) (rest := []) (pc2 := 78) rfl rfl rfl rfl tx6.1 rfl ?_
          refine z_inl ?_
          refine z_lv (lv2 := [(0, _), (1, _)]) ⟨rfl, rfl, trivial⟩ ?_
          refine z_iload_n (pc2 := 1) rfl rfl rfl ?_
          refine z_if_lt (t := 16) (pc2 := 4) rfl rfl rfl (by omega) (fun c14 => ?_) (fun c14 => by exfalso; omega)
          refine z_iconst (pc2 := 17) rfl rfl ?_
          refine z_zret rfl rfl (by omega) ?_
          show zB _ _ _ _ _ _ [_] _ _
          refine z_if_ne (t := 88) (pc2 := 81) rfl rfl rfl (by omega) (fun c15 => by exfalso; omega) (fun c15 => ?_)
          refine z_aload_n (pc2 := 82) rfl rfl rfl ?_
          refine z_bipush (pc2 := 84) rfl rfl (by decide) ?_
          refine z_callV (y2 := 143) (as := [_]) (rest := []) (pc2 := 87) rfl rfl rfl rfl t1 rfl ?_
          refine z_inl ?_
          refine z_lv (lv2 := [(0, _), (1, _)]) ⟨rfl, rfl, trivial⟩ ?_
          refine z_aload_n (pc2 := 1) rfl rfl rfl ?_
          refine z_dup (pc2 := 2) rfl rfl rfl ?_
          refine z_getI (pc2 := 5) 0 rfl rfl rfl rfl rfl t1 ?_
          intro v16 e16 r16 k16
          clear k16
          clear e16
          refine z_iconst (pc2 := 6) rfl rfl ?_
          refine z_iadd (pc2 := 7) rfl rfl ?_
          refine z_putI_any (pc2 := 10) rfl rfl rfl rfl rfl rfl t1 (fun _ _ => True.intro) (fun u17 u17r => ?_)
          refine z_aload_n (pc2 := 11) rfl rfl rfl ?_
          refine z_iload_n (pc2 := 12) rfl rfl rfl ?_
          refine z_putI (pc2 := 15) rfl rfl rfl rfl rfl rfl t1 (by omega) True.intro ?_
          refine z_iload_n (pc2 := 16) rfl rfl rfl ?_
          refine z_iret rfl rfl ?_
          show zB _ _ _ _ _ _ [_] _ _
          refine z_iret rfl rfl ?_
          exact hK _ _ _ _ _ _ _ (zCP_q ⟨zTn_rf, (zQi_u (zQi_u zQi_rf (by unfold zIr; omega)) (by unfold zIr; omega)), zQp_rf⟩ (zTm_rf _)) (by omega)
        ·
          refine z_aload_n (pc2 := 67) rfl rfl rfl ?_
          refine z_bipush (pc2 := 69) rfl rfl (by decide) ?_
          refine z_callV (y2 := 143) (as := [_]) (rest := []) (pc2 := 72) rfl rfl rfl rfl t1 rfl ?_
          refine z_inl ?_
          refine z_lv (lv2 := [(0, _), (1, _)]) ⟨rfl, rfl, trivial⟩ ?_
          refine z_aload_n (pc2 := 1) rfl rfl rfl ?_
          refine z_dup (pc2 := 2) rfl rfl rfl ?_
          refine z_getI (pc2 := 5) 0 rfl rfl rfl rfl rfl t1 ?_
          intro v18 e18 r18 k18
          clear k18
          clear e18
          refine z_iconst (pc2 := 6) rfl rfl ?_
          refine z_iadd (pc2 := 7) rfl rfl ?_
          refine z_putI_any (pc2 := 10) rfl rfl rfl rfl rfl rfl t1 (fun _ _ => True.intro) (fun u19 u19r => ?_)
          refine z_aload_n (pc2 := 11) rfl rfl rfl ?_
          refine z_iload_n (pc2 := 12) rfl rfl rfl ?_
          refine z_putI (pc2 := 15) rfl rfl rfl rfl rfl rfl t1 (by omega) True.intro ?_
          refine z_iload_n (pc2 := 16) rfl rfl rfl ?_
          refine z_iret rfl rfl ?_
          show zB _ _ _ _ _ _ [_] _ _
          refine z_iret rfl rfl ?_
          exact hK _ _ _ _ _ _ _ (zCP_q ⟨zTn_rf, (zQi_u (zQi_u zQi_rf (by unfold zIr; omega)) (by unfold zIr; omega)), zQp_rf⟩ (zTm_rf _)) (by omega)
      ·
        refine z_iconst (pc2 := 11) rfl rfl ?_
        refine z_goto (pc2 := 15) rfl rfl ?_
        refine z_zret rfl rfl (by omega) ?_
        show zB _ _ _ _ _ _ [_] _ _
        refine z_if_eq (t := 59) (pc2 := 52) rfl rfl rfl (by omega) (fun c20 => by exfalso; omega) (fun c20 => ?_)
        refine z_aload_n (pc2 := 53) rfl rfl rfl ?_
        refine z_bipush (pc2 := 55) rfl rfl (by decide) ?_
        refine z_callV (y2 := 142) (as := [_]) (rest := []) (pc2 := 58) rfl rfl rfl rfl t1 rfl ?_
        refine z_inl ?_
        refine z_lv (lv2 := [(0, _), (1, _)]) ⟨rfl, rfl, trivial⟩ ?_
        refine z_aload_n (pc2 := 1) rfl rfl rfl ?_
        refine z_iload_n (pc2 := 2) rfl rfl rfl ?_
        refine z_putI (pc2 := 5) rfl rfl rfl rfl rfl rfl t1 (by omega) True.intro ?_
        refine z_iload_n (pc2 := 6) rfl rfl rfl ?_
        refine z_iret rfl rfl ?_
        show zB _ _ _ _ _ _ [_] _ _
        refine z_iret rfl rfl ?_
        exact hK _ _ _ _ _ _ _ (zCP_q ⟨zTn_rf, (zQi_u zQi_rf (by unfold zIr; omega)), zQp_rf⟩ (zTm_rf _)) (by omega)
    ·
      refine z_iload_n (pc2 := 5) rfl rfl rfl ?_
      refine z_aload_n (pc2 := 6) rfl rfl rfl ?_
      refine z_getI (pc2 := 9) 0 rfl rfl rfl rfl rfl tx6.1 ?_
      intro v21 e21 r21 k21
      replace k21 : (-1 : Int) ≤ v21 ∧ v21 ≤ 8 := k21
      clear e21
      refine z_icmp_ge (t := 16) (pc2 := 12) rfl rfl rfl (by omega) (by omega) (fun c22 => ?_) (fun c22 => ?_)
      ·
        refine z_iconst (pc2 := 17) rfl rfl ?_
        refine z_zret rfl rfl (by omega) ?_
        show zB _ _ _ _ _ _ [_] _ _
        refine z_if_eq (t := 45) (pc2 := 29) rfl rfl rfl (by omega) (fun c23 => ?_) (fun c23 => by exfalso; omega)
        refine z_aload_n (pc2 := 46) rfl rfl rfl ?_
        refine z_callV (y2 := 148) (as := []) (rest := []) (pc2 := 49) rfl rfl rfl rfl t1 rfl ?_
        refine z_inl ?_
        refine z_lv (lv2 := [(0, _)]) ⟨rfl, trivial⟩ ?_
        refine z_aload_n (pc2 := 1) rfl rfl rfl ?_
        refine z_getI (pc2 := 4) 0 rfl rfl rfl rfl rfl t1 ?_
        intro v24 e24 r24 k24
        clear k24
        clear e24
        refine z_sipush (pc2 := 7) rfl rfl (by decide) ?_
        refine z_icmp_lt (t := 14) (pc2 := 10) rfl rfl rfl (by omega) (by omega) (fun c25 => ?_) (fun c25 => ?_)
        ·
          refine z_iconst (pc2 := 15) rfl rfl ?_
          refine z_zret rfl rfl (by omega) ?_
          show zB _ _ _ _ _ _ [_] _ _
          refine z_if_eq (t := 59) (pc2 := 52) rfl rfl rfl (by omega) (fun c26 => ?_) (fun c26 => by exfalso; omega)
          refine z_aload_n (pc2 := 60) rfl rfl rfl ?_
          refine z_getI (pc2 := 63) 0 rfl rfl rfl rfl rfl tx6.1 ?_
          intro v27 e27 r27 k27
          replace k27 : (-1 : Int) ≤ v27 ∧ v27 ≤ 8 := k27
          clear e27
          refine z_if_ge (t := 73) (pc2 := 66) rfl rfl rfl (by omega) (fun c28 => ?_) (fun c28 => ?_)
          ·
            refine z_aload_n (pc2 := 74) rfl rfl rfl ?_
            refine z_iload_n (pc2 := 75) rfl rfl rfl ?_
            refine z_callV (y2 := 24) (as := [_]) (rest := []) (pc2 := 78) rfl rfl rfl rfl tx6.1 rfl ?_
            refine z_inl ?_
            refine z_lv (lv2 := [(0, _), (1, _)]) ⟨rfl, rfl, trivial⟩ ?_
            refine z_iload_n (pc2 := 1) rfl rfl rfl ?_
            refine z_if_lt (t := 16) (pc2 := 4) rfl rfl rfl (by omega) (fun c29 => by exfalso; omega) (fun c29 => ?_)
            refine z_iload_n (pc2 := 5) rfl rfl rfl ?_
            refine z_aload_n (pc2 := 6) rfl rfl rfl ?_
            refine z_getI (pc2 := 9) 0 rfl rfl rfl rfl rfl tx6.1 ?_
            intro v30 e30 r30 k30
            replace k30 : (-1 : Int) ≤ v30 ∧ v30 ≤ 8 := k30
            clear e30
            refine z_icmp_ge (t := 16) (pc2 := 12) rfl rfl rfl (by omega) (by omega) (fun c31 => ?_) (fun c31 => ?_)
            ·
              refine z_iconst (pc2 := 17) rfl rfl ?_
              refine z_zret rfl rfl (by omega) ?_
              show zB _ _ _ _ _ _ [_] _ _
              refine z_if_ne (t := 88) (pc2 := 81) rfl rfl rfl (by omega) (fun c32 => by exfalso; omega) (fun c32 => ?_)
              refine z_aload_n (pc2 := 82) rfl rfl rfl ?_
              refine z_bipush (pc2 := 84) rfl rfl (by decide) ?_
              refine z_callV (y2 := 143) (as := [_]) (rest := []) (pc2 := 87) rfl rfl rfl rfl t1 rfl ?_
              refine z_inl ?_
              refine z_lv (lv2 := [(0, _), (1, _)]) ⟨rfl, rfl, trivial⟩ ?_
              refine z_aload_n (pc2 := 1) rfl rfl rfl ?_
              refine z_dup (pc2 := 2) rfl rfl rfl ?_
              refine z_getI (pc2 := 5) 0 rfl rfl rfl rfl rfl t1 ?_
              intro v33 e33 r33 k33
              clear k33
              clear e33
              refine z_iconst (pc2 := 6) rfl rfl ?_
              refine z_iadd (pc2 := 7) rfl rfl ?_
              refine z_putI_any (pc2 := 10) rfl rfl rfl rfl rfl rfl t1 (fun _ _ => True.intro) (fun u34 u34r => ?_)
              refine z_aload_n (pc2 := 11) rfl rfl rfl ?_
              refine z_iload_n (pc2 := 12) rfl rfl rfl ?_
              refine z_putI (pc2 := 15) rfl rfl rfl rfl rfl rfl t1 (by omega) True.intro ?_
              refine z_iload_n (pc2 := 16) rfl rfl rfl ?_
              refine z_iret rfl rfl ?_
              show zB _ _ _ _ _ _ [_] _ _
              refine z_iret rfl rfl ?_
              exact hK _ _ _ _ _ _ _ (zCP_q ⟨zTn_rf, (zQi_u (zQi_u zQi_rf (by unfold zIr; omega)) (by unfold zIr; omega)), zQp_rf⟩ (zTm_rf _)) (by omega)
            ·
              refine z_iconst (pc2 := 13) rfl rfl ?_
              refine z_goto (pc2 := 17) rfl rfl ?_
              refine z_zret rfl rfl (by omega) ?_
              show zB _ _ _ _ _ _ [_] _ _
              refine z_if_ne (t := 88) (pc2 := 81) rfl rfl rfl (by omega) (fun c35 => ?_) (fun c35 => by exfalso; omega)
              refine z_aload_n (pc2 := 89) rfl rfl rfl ?_
              refine z_getP (pc2 := 92) rfl rfl rfl rfl tx6.1 ?_
              intro p36 p36e p36k
              replace p36k : p36 = some (x6 + 2) := p36k; clear p36e; subst p36k
              refine z_iload_n (pc2 := 93) rfl rfl rfl ?_
              refine z_aald (pc2 := 94) rfl rfl tx6.2.2.1 rfl (by omega) (by omega) (by omega) ?_
              intro p37 p37e p37k
              rcases p37k with rfl | ⟨q38, rfl, q389, d39, n40, tq38, q38c, q38b⟩
              ·
                refine z_astore (lv2 := [(4, _), (3, _), (0, _), (1, _), (2, _)]) (pc2 := 96) rfl rfl rfl rfl ?_
                refine z_aload (pc2 := 98) rfl rfl rfl ?_
                refine z_ifnull (t := 120) (pc2 := 101) rfl rfl rfl (fun _ => ?_) (fun a h => by cases h)
                refine z_aload_n (pc2 := 121) rfl rfl rfl ?_
                refine z_getP (pc2 := 124) rfl rfl rfl rfl t1 ?_
                intro p41 p41e p41k
                clear p41k; replace p41e : p41 = some b4 := by rw [p41e]; first | exact p3e | exact Eq.symm p3e | (simp [zU]; first | done | exact p3e | exact Eq.symm p3e | omega)
                subst p41e
                refine z_callV (y2 := 77) (as := []) (rest := []) (pc2 := 127) rfl rfl rfl rfl tb4.1 rfl ?_
                have c42 := hcr
                obtain ⟨z42, hz42, hd42⟩ := zCR_z c42 hb4 (Eq.symm p5e)
                have iz42 : z42 = 23 ∨ z42 = 30 ∨ z42 = 42 ∨ z42 = 49 := by omega
                refine c_Room_keep hn hC hb4 ix6 iz42 (by omega) (c42.2.2 _ ix6) (Eq.symm p5e) hz42 (fun I42 P42 G42 k42 f42 => ?_)
                show zB _ _ _ _ _ _ [] _ _
                refine z_aload_n (pc2 := 128) rfl rfl rfl ?_
                refine z_getP (pc2 := 131) rfl rfl rfl rfl tx6.1 ?_
                intro p43 p43e p43k
                replace p43k : p43 = some (x6 + 3) := p43k; clear p43e; subst p43k
                refine z_iload_n (pc2 := 132) rfl rfl rfl ?_
                refine z_aload (pc2 := 134) rfl rfl rfl ?_
                refine z_aast (pc2 := 135) rfl rfl tx6.2.2.2.1 rfl (by omega) (by omega) (by omega) (fun b hb => by cases hb) (Or.inl rfl) ?_
                refine z_aload_n (pc2 := 136) rfl rfl rfl ?_
                refine z_getP (pc2 := 139) rfl rfl rfl rfl tx6.1 ?_
                intro p44 p44e p44k
                replace p44k : p44 = some (x6 + 2) := p44k; clear p44e; subst p44k
                refine z_iload_n (pc2 := 140) rfl rfl rfl ?_
                refine z_aconst_null (pc2 := 141) rfl rfl ?_
                refine z_aast (pc2 := 142) rfl rfl tx6.2.2.1 rfl (by omega) (by omega) (by omega) (fun b hb => by cases hb) (Or.inl rfl) ?_
                refine z_aload_n (pc2 := 143) rfl rfl rfl ?_
                refine z_iconst (pc2 := 144) rfl rfl ?_
                refine z_callV (y2 := 144) (as := [_]) (rest := []) (pc2 := 147) rfl rfl rfl rfl t1 rfl ?_
                refine z_inl ?_
                refine z_lv (lv2 := [(0, _), (1, _)]) ⟨rfl, rfl, trivial⟩ ?_
                refine z_aload_n (pc2 := 1) rfl rfl rfl ?_
                refine z_iconst (pc2 := 2) rfl rfl ?_
                refine z_putI (pc2 := 5) rfl rfl rfl rfl rfl rfl t1 (by omega) True.intro ?_
                refine z_iload_n (pc2 := 6) rfl rfl rfl ?_
                refine z_iret rfl rfl ?_
                show zB _ _ _ _ _ _ [_] _ _
                refine z_iret rfl rfl ?_
                exact hK _ _ _ _ _ _ _ (zCP_tr (m := n) (zCP_keep2 (n := n) iz42 hb4 k42 f42) (zCP_q ⟨zTn_rf, (zQi_u zQi_rf (by unfold zIr; omega)), (zQp_u (zQp_u zQp_rf (by unfold zPr; omega)) (by unfold zPr; omega))⟩ (zTm_rf _)) (by omega)) (by omega)
              ·
                replace tq38 : _ = ((1, 9, [1, d39, n40]) : zT) := tq38
                refine zB_le tq38 trivial (fun q38l => ?_)
                refine z_astore (lv2 := [(4, _), (3, _), (0, _), (1, _), (2, _)]) (pc2 := 96) rfl rfl rfl rfl ?_
                refine z_aload (pc2 := 98) rfl rfl rfl ?_
                refine z_ifnull (t := 120) (pc2 := 101) rfl rfl rfl (fun h => by cases h) (fun _ _ => ?_)
                refine z_aload (pc2 := 103) rfl rfl rfl ?_
                refine z_aload_n (pc2 := 104) rfl rfl rfl ?_
                refine z_getI (pc2 := 107) 0 rfl rfl rfl rfl rfl tx6.1 ?_
                intro v45 e45 r45 k45
                clear k45
                clear e45
                refine z_callV (y2 := 87) (as := [_]) (rest := []) (pc2 := 110) rfl rfl rfl rfl tq38 rfl ?_
                refine z_inl ?_
                refine z_lv (lv2 := [(0, _), (1, _)]) ⟨rfl, rfl, trivial⟩ ?_
                refine z_iload_n (pc2 := 1) rfl rfl rfl ?_
                refine z_if_eq (t := 26) (pc2 := 4) rfl rfl rfl (by omega) (fun c46 => ?_) (fun c46 => ?_)
                ·
                  refine z_iconst (pc2 := 27) rfl rfl ?_
                  refine z_goto (pc2 := 31) rfl rfl ?_
                  refine z_zret rfl rfl (by omega) ?_
                  show zB _ _ _ _ _ _ [_] _ _
                  refine z_if_ne (t := 120) (pc2 := 113) rfl rfl rfl (by omega) (fun c47 => ?_) (fun c47 => by exfalso; omega)
                  refine z_aload_n (pc2 := 121) rfl rfl rfl ?_
                  refine z_getP (pc2 := 124) rfl rfl rfl rfl t1 ?_
                  intro p48 p48e p48k
                  clear p48k; replace p48e : p48 = some b4 := by rw [p48e]; first | exact p3e | exact Eq.symm p3e | (simp [zU]; first | done | exact p3e | exact Eq.symm p3e | omega)
                  subst p48e
                  refine z_callV (y2 := 77) (as := []) (rest := []) (pc2 := 127) rfl rfl rfl rfl tb4.1 rfl ?_
                  have c49 := hcr
                  obtain ⟨z49, hz49, hd49⟩ := zCR_z c49 hb4 (Eq.symm p5e)
                  have iz49 : z49 = 23 ∨ z49 = 30 ∨ z49 = 42 ∨ z49 = 49 := by omega
                  refine c_Room_keep hn hC hb4 ix6 iz49 (by omega) (c49.2.2 _ ix6) (Eq.symm p5e) hz49 (fun I49 P49 G49 k49 f49 => ?_)
                  show zB _ _ _ _ _ _ [] _ _
                  refine z_aload_n (pc2 := 128) rfl rfl rfl ?_
                  refine z_getP (pc2 := 131) rfl rfl rfl rfl tx6.1 ?_
                  intro p50 p50e p50k
                  replace p50k : p50 = some (x6 + 3) := p50k; clear p50e; subst p50k
                  refine z_iload_n (pc2 := 132) rfl rfl rfl ?_
                  refine z_aload (pc2 := 134) rfl rfl rfl ?_
                  refine z_aast (pc2 := 135) rfl rfl tx6.2.2.2.1 rfl (by omega) (by omega) (by omega) (fun b hb => by cases hb; rw [tq38]; exact ⟨_, rfl, rfl⟩) (Or.inr ⟨_, rfl, by omega, _, _, tq38, by omega, by omega⟩) ?_
                  refine z_aload_n (pc2 := 136) rfl rfl rfl ?_
                  refine z_getP (pc2 := 139) rfl rfl rfl rfl tx6.1 ?_
                  intro p51 p51e p51k
                  replace p51k : p51 = some (x6 + 2) := p51k; clear p51e; subst p51k
                  refine z_iload_n (pc2 := 140) rfl rfl rfl ?_
                  refine z_aconst_null (pc2 := 141) rfl rfl ?_
                  refine z_aast (pc2 := 142) rfl rfl tx6.2.2.1 rfl (by omega) (by omega) (by omega) (fun b hb => by cases hb) (Or.inl rfl) ?_
                  refine z_aload_n (pc2 := 143) rfl rfl rfl ?_
                  refine z_iconst (pc2 := 144) rfl rfl ?_
                  refine z_callV (y2 := 144) (as := [_]) (rest := []) (pc2 := 147) rfl rfl rfl rfl t1 rfl ?_
                  refine z_inl ?_
                  refine z_lv (lv2 := [(0, _), (1, _)]) ⟨rfl, rfl, trivial⟩ ?_
                  refine z_aload_n (pc2 := 1) rfl rfl rfl ?_
                  refine z_iconst (pc2 := 2) rfl rfl ?_
                  refine z_putI (pc2 := 5) rfl rfl rfl rfl rfl rfl t1 (by omega) True.intro ?_
                  refine z_iload_n (pc2 := 6) rfl rfl rfl ?_
                  refine z_iret rfl rfl ?_
                  show zB _ _ _ _ _ _ [_] _ _
                  refine z_iret rfl rfl ?_
                  exact hK _ _ _ _ _ _ _ (zCP_tr (m := n) (zCP_keep2 (n := n) iz49 hb4 k49 f49) (zCP_q ⟨zTn_rf, (zQi_u zQi_rf (by unfold zIr; omega)), (zQp_u (zQp_u zQp_rf (by unfold zPr; omega)) (by unfold zPr; omega))⟩ (zTm_rf _)) (by omega)) (by omega)
                ·
                  refine z_iload_n (pc2 := 5) rfl rfl rfl ?_
                  refine z_iconst (pc2 := 6) rfl rfl ?_
                  refine z_icmp_ne (t := 19) (pc2 := 9) rfl rfl rfl (by omega) (by omega) (fun c52 => ?_) (fun c52 => ?_)
                  ·
                    refine z_aload_n (pc2 := 20) rfl rfl rfl ?_
                    refine z_callV (y2 := 86) (as := []) (rest := []) (pc2 := 23) rfl rfl rfl rfl tq38 rfl ?_
                    refine z_inl ?_
                    refine z_lv (lv2 := [(0, _)]) ⟨rfl, trivial⟩ ?_
                    refine z_aload_n (pc2 := 1) rfl rfl rfl ?_
                    refine z_getI (pc2 := 4) 0 rfl rfl rfl rfl rfl tq38 ?_
                    intro v53 e53 r53 k53
                    replace k53 : d39 = v53 := Eq.symm k53; clear r53 e53; subst k53
                    refine z_iconst (pc2 := 5) rfl rfl ?_
                    refine z_icmp_eq (t := 16) (pc2 := 8) rfl rfl rfl (by omega) (by omega) (fun c54 => ?_) (fun c54 => ?_)
                    ·
                      refine z_iconst (pc2 := 17) rfl rfl ?_
                      refine z_goto (pc2 := 21) rfl rfl ?_
                      refine z_zret rfl rfl (by omega) ?_
                      show zB _ _ _ _ _ _ [_] _ _
                      refine z_if_eq (t := 30) (pc2 := 26) rfl rfl rfl (by omega) (fun c55 => by exfalso; omega) (fun c55 => ?_)
                      refine z_iconst (pc2 := 27) rfl rfl ?_
                      refine z_goto (pc2 := 31) rfl rfl ?_
                      refine z_zret rfl rfl (by omega) ?_
                      show zB _ _ _ _ _ _ [_] _ _
                      refine z_if_ne (t := 120) (pc2 := 113) rfl rfl rfl (by omega) (fun c56 => ?_) (fun c56 => by exfalso; omega)
                      refine z_aload_n (pc2 := 121) rfl rfl rfl ?_
                      refine z_getP (pc2 := 124) rfl rfl rfl rfl t1 ?_
                      intro p57 p57e p57k
                      clear p57k; replace p57e : p57 = some b4 := by rw [p57e]; first | exact p3e | exact Eq.symm p3e | (simp [zU]; first | done | exact p3e | exact Eq.symm p3e | omega)
                      subst p57e
                      refine z_callV (y2 := 77) (as := []) (rest := []) (pc2 := 127) rfl rfl rfl rfl tb4.1 rfl ?_
                      have c58 := hcr
                      obtain ⟨z58, hz58, hd58⟩ := zCR_z c58 hb4 (Eq.symm p5e)
                      have iz58 : z58 = 23 ∨ z58 = 30 ∨ z58 = 42 ∨ z58 = 49 := by omega
                      refine c_Room_keep hn hC hb4 ix6 iz58 (by omega) (c58.2.2 _ ix6) (Eq.symm p5e) hz58 (fun I58 P58 G58 k58 f58 => ?_)
                      show zB _ _ _ _ _ _ [] _ _
                      refine z_aload_n (pc2 := 128) rfl rfl rfl ?_
                      refine z_getP (pc2 := 131) rfl rfl rfl rfl tx6.1 ?_
                      intro p59 p59e p59k
                      replace p59k : p59 = some (x6 + 3) := p59k; clear p59e; subst p59k
                      refine z_iload_n (pc2 := 132) rfl rfl rfl ?_
                      refine z_aload (pc2 := 134) rfl rfl rfl ?_
                      refine z_aast (pc2 := 135) rfl rfl tx6.2.2.2.1 rfl (by omega) (by omega) (by omega) (fun b hb => by cases hb; rw [tq38]; exact ⟨_, rfl, rfl⟩) (Or.inr ⟨_, rfl, by omega, _, _, tq38, by omega, by omega⟩) ?_
                      refine z_aload_n (pc2 := 136) rfl rfl rfl ?_
                      refine z_getP (pc2 := 139) rfl rfl rfl rfl tx6.1 ?_
                      intro p60 p60e p60k
                      replace p60k : p60 = some (x6 + 2) := p60k; clear p60e; subst p60k
                      refine z_iload_n (pc2 := 140) rfl rfl rfl ?_
                      refine z_aconst_null (pc2 := 141) rfl rfl ?_
                      refine z_aast (pc2 := 142) rfl rfl tx6.2.2.1 rfl (by omega) (by omega) (by omega) (fun b hb => by cases hb) (Or.inl rfl) ?_
                      refine z_aload_n (pc2 := 143) rfl rfl rfl ?_
                      refine z_iconst (pc2 := 144) rfl rfl ?_
                      refine z_callV (y2 := 144) (as := [_]) (rest := []) (pc2 := 147) rfl rfl rfl rfl t1 rfl ?_
                      refine z_inl ?_
                      refine z_lv (lv2 := [(0, _), (1, _)]) ⟨rfl, rfl, trivial⟩ ?_
                      refine z_aload_n (pc2 := 1) rfl rfl rfl ?_
                      refine z_iconst (pc2 := 2) rfl rfl ?_
                      refine z_putI (pc2 := 5) rfl rfl rfl rfl rfl rfl t1 (by omega) True.intro ?_
                      refine z_iload_n (pc2 := 6) rfl rfl rfl ?_
                      refine z_iret rfl rfl ?_
                      show zB _ _ _ _ _ _ [_] _ _
                      refine z_iret rfl rfl ?_
                      exact hK _ _ _ _ _ _ _ (zCP_tr (m := n) (zCP_keep2 (n := n) iz58 hb4 k58 f58) (zCP_q ⟨zTn_rf, (zQi_u zQi_rf (by unfold zIr; omega)), (zQp_u (zQp_u zQp_rf (by unfold zPr; omega)) (by unfold zPr; omega))⟩ (zTm_rf _)) (by omega)) (by omega)
                    ·
                      refine z_aload_n (pc2 := 9) rfl rfl rfl ?_
                      refine z_getI (pc2 := 12) 0 rfl rfl rfl rfl rfl tq38 ?_
                      intro v61 e61 r61 k61
                      replace k61 : d39 = v61 := Eq.symm k61; clear r61 e61; subst k61
                      refine z_iconst (pc2 := 13) rfl rfl ?_
                      refine z_icmp_ne (t := 20) (pc2 := 16) rfl rfl rfl (by omega) (by omega) (fun c62 => ?_) (fun c62 => ?_)
                      ·
                        refine z_iconst (pc2 := 21) rfl rfl ?_
                        refine z_zret rfl rfl (by omega) ?_
                        show zB _ _ _ _ _ _ [_] _ _
                        refine z_if_eq (t := 30) (pc2 := 26) rfl rfl rfl (by omega) (fun c63 => ?_) (fun c63 => by exfalso; omega)
                        refine z_iconst (pc2 := 31) rfl rfl ?_
                        refine z_zret rfl rfl (by omega) ?_
                        show zB _ _ _ _ _ _ [_] _ _
                        refine z_if_ne (t := 120) (pc2 := 113) rfl rfl rfl (by omega) (fun c64 => by exfalso; omega) (fun c64 => ?_)
                        refine z_aload_n (pc2 := 114) rfl rfl rfl ?_
                        refine z_bipush (pc2 := 116) rfl rfl (by decide) ?_
                        refine z_callV (y2 := 143) (as := [_]) (rest := []) (pc2 := 119) rfl rfl rfl rfl t1 rfl ?_
                        refine z_inl ?_
                        refine z_lv (lv2 := [(0, _), (1, _)]) ⟨rfl, rfl, trivial⟩ ?_
                        refine z_aload_n (pc2 := 1) rfl rfl rfl ?_
                        refine z_dup (pc2 := 2) rfl rfl rfl ?_
                        refine z_getI (pc2 := 5) 0 rfl rfl rfl rfl rfl t1 ?_
                        intro v65 e65 r65 k65
                        clear k65
                        clear e65
                        refine z_iconst (pc2 := 6) rfl rfl ?_
                        refine z_iadd (pc2 := 7) rfl rfl ?_
                        refine z_putI_any (pc2 := 10) rfl rfl rfl rfl rfl rfl t1 (fun _ _ => True.intro) (fun u66 u66r => ?_)
                        refine z_aload_n (pc2 := 11) rfl rfl rfl ?_
                        refine z_iload_n (pc2 := 12) rfl rfl rfl ?_
                        refine z_putI (pc2 := 15) rfl rfl rfl rfl rfl rfl t1 (by omega) True.intro ?_
                        refine z_iload_n (pc2 := 16) rfl rfl rfl ?_
                        refine z_iret rfl rfl ?_
                        show zB _ _ _ _ _ _ [_] _ _
                        refine z_iret rfl rfl ?_
                        exact hK _ _ _ _ _ _ _ (zCP_q ⟨zTn_rf, (zQi_u (zQi_u zQi_rf (by unfold zIr; omega)) (by unfold zIr; omega)), zQp_rf⟩ (zTm_rf _)) (by omega)
                      ·
                        refine z_iconst (pc2 := 17) rfl rfl ?_
                        refine z_goto (pc2 := 21) rfl rfl ?_
                        refine z_zret rfl rfl (by omega) ?_
                        show zB _ _ _ _ _ _ [_] _ _
                        refine z_if_eq (t := 30) (pc2 := 26) rfl rfl rfl (by omega) (fun c67 => by exfalso; omega) (fun c67 => ?_)
                        refine z_iconst (pc2 := 27) rfl rfl ?_
                        refine z_goto (pc2 := 31) rfl rfl ?_
                        refine z_zret rfl rfl (by omega) ?_
                        show zB _ _ _ _ _ _ [_] _ _
                        refine z_if_ne (t := 120) (pc2 := 113) rfl rfl rfl (by omega) (fun c68 => ?_) (fun c68 => by exfalso; omega)
                        refine z_aload_n (pc2 := 121) rfl rfl rfl ?_
                        refine z_getP (pc2 := 124) rfl rfl rfl rfl t1 ?_
                        intro p69 p69e p69k
                        clear p69k; replace p69e : p69 = some b4 := by rw [p69e]; first | exact p3e | exact Eq.symm p3e | (simp [zU]; first | done | exact p3e | exact Eq.symm p3e | omega)
                        subst p69e
                        refine z_callV (y2 := 77) (as := []) (rest := []) (pc2 := 127) rfl rfl rfl rfl tb4.1 rfl ?_
                        have c70 := hcr
                        obtain ⟨z70, hz70, hd70⟩ := zCR_z c70 hb4 (Eq.symm p5e)
                        have iz70 : z70 = 23 ∨ z70 = 30 ∨ z70 = 42 ∨ z70 = 49 := by omega
                        refine c_Room_keep hn hC hb4 ix6 iz70 (by omega) (c70.2.2 _ ix6) (Eq.symm p5e) hz70 (fun I70 P70 G70 k70 f70 => ?_)
                        show zB _ _ _ _ _ _ [] _ _
                        refine z_aload_n (pc2 := 128) rfl rfl rfl ?_
                        refine z_getP (pc2 := 131) rfl rfl rfl rfl tx6.1 ?_
                        intro p71 p71e p71k
                        replace p71k : p71 = some (x6 + 3) := p71k; clear p71e; subst p71k
                        refine z_iload_n (pc2 := 132) rfl rfl rfl ?_
                        refine z_aload (pc2 := 134) rfl rfl rfl ?_
                        refine z_aast (pc2 := 135) rfl rfl tx6.2.2.2.1 rfl (by omega) (by omega) (by omega) (fun b hb => by cases hb; rw [tq38]; exact ⟨_, rfl, rfl⟩) (Or.inr ⟨_, rfl, by omega, _, _, tq38, by omega, by omega⟩) ?_
                        refine z_aload_n (pc2 := 136) rfl rfl rfl ?_
                        refine z_getP (pc2 := 139) rfl rfl rfl rfl tx6.1 ?_
                        intro p72 p72e p72k
                        replace p72k : p72 = some (x6 + 2) := p72k; clear p72e; subst p72k
                        refine z_iload_n (pc2 := 140) rfl rfl rfl ?_
                        refine z_aconst_null (pc2 := 141) rfl rfl ?_
                        refine z_aast (pc2 := 142) rfl rfl tx6.2.2.1 rfl (by omega) (by omega) (by omega) (fun b hb => by cases hb) (Or.inl rfl) ?_
                        refine z_aload_n (pc2 := 143) rfl rfl rfl ?_
                        refine z_iconst (pc2 := 144) rfl rfl ?_
                        refine z_callV (y2 := 144) (as := [_]) (rest := []) (pc2 := 147) rfl rfl rfl rfl t1 rfl ?_
                        refine z_inl ?_
                        refine z_lv (lv2 := [(0, _), (1, _)]) ⟨rfl, rfl, trivial⟩ ?_
                        refine z_aload_n (pc2 := 1) rfl rfl rfl ?_
                        refine z_iconst (pc2 := 2) rfl rfl ?_
                        refine z_putI (pc2 := 5) rfl rfl rfl rfl rfl rfl t1 (by omega) True.intro ?_
                        refine z_iload_n (pc2 := 6) rfl rfl rfl ?_
                        refine z_iret rfl rfl ?_
                        show zB _ _ _ _ _ _ [_] _ _
                        refine z_iret rfl rfl ?_
                        exact hK _ _ _ _ _ _ _ (zCP_tr (m := n) (zCP_keep2 (n := n) iz70 hb4 k70 f70) (zCP_q ⟨zTn_rf, (zQi_u zQi_rf (by unfold zIr; omega)), (zQp_u (zQp_u zQp_rf (by unfold zPr; omega)) (by unfold zPr; omega))⟩ (zTm_rf _)) (by omega)) (by omega)
                  ·
                    refine z_aload_n (pc2 := 10) rfl rfl rfl ?_
                    refine z_callV (y2 := 85) (as := []) (rest := []) (pc2 := 13) rfl rfl rfl rfl tq38 rfl ?_
                    refine z_inl ?_
                    refine z_lv (lv2 := [(0, _)]) ⟨rfl, trivial⟩ ?_
                    refine z_aload_n (pc2 := 1) rfl rfl rfl ?_
                    refine z_getI (pc2 := 4) 0 rfl rfl rfl rfl rfl tq38 ?_
                    intro v73 e73 r73 k73
                    replace k73 : d39 = v73 := Eq.symm k73; clear r73 e73; subst k73
                    refine z_if_eq (t := 15) (pc2 := 7) rfl rfl rfl (by omega) (fun c74 => ?_) (fun c74 => ?_)
                    ·
                      refine z_iconst (pc2 := 16) rfl rfl ?_
                      refine z_goto (pc2 := 20) rfl rfl ?_
                      refine z_zret rfl rfl (by omega) ?_
                      show zB _ _ _ _ _ _ [_] _ _
                      refine z_if_eq (t := 30) (pc2 := 16) rfl rfl rfl (by omega) (fun c75 => by exfalso; omega) (fun c75 => ?_)
                      refine z_goto (pc2 := 26) rfl rfl ?_
                      refine z_iconst (pc2 := 27) rfl rfl ?_
                      refine z_goto (pc2 := 31) rfl rfl ?_
                      refine z_zret rfl rfl (by omega) ?_
                      show zB _ _ _ _ _ _ [_] _ _
                      refine z_if_ne (t := 120) (pc2 := 113) rfl rfl rfl (by omega) (fun c76 => ?_) (fun c76 => by exfalso; omega)
                      refine z_aload_n (pc2 := 121) rfl rfl rfl ?_
                      refine z_getP (pc2 := 124) rfl rfl rfl rfl t1 ?_
                      intro p77 p77e p77k
                      clear p77k; replace p77e : p77 = some b4 := by rw [p77e]; first | exact p3e | exact Eq.symm p3e | (simp [zU]; first | done | exact p3e | exact Eq.symm p3e | omega)
                      subst p77e
                      refine z_callV (y2 := 77) (as := []) (rest := []) (pc2 := 127) rfl rfl rfl rfl tb4.1 rfl ?_
                      have c78 := hcr
                      obtain ⟨z78, hz78, hd78⟩ := zCR_z c78 hb4 (Eq.symm p5e)
                      have iz78 : z78 = 23 ∨ z78 = 30 ∨ z78 = 42 ∨ z78 = 49 := by omega
                      refine c_Room_keep hn hC hb4 ix6 iz78 (by omega) (c78.2.2 _ ix6) (Eq.symm p5e) hz78 (fun I78 P78 G78 k78 f78 => ?_)
                      show zB _ _ _ _ _ _ [] _ _
                      refine z_aload_n (pc2 := 128) rfl rfl rfl ?_
                      refine z_getP (pc2 := 131) rfl rfl rfl rfl tx6.1 ?_
                      intro p79 p79e p79k
                      replace p79k : p79 = some (x6 + 3) := p79k; clear p79e; subst p79k
                      refine z_iload_n (pc2 := 132) rfl rfl rfl ?_
                      refine z_aload (pc2 := 134) rfl rfl rfl ?_
                      refine z_aast (pc2 := 135) rfl rfl tx6.2.2.2.1 rfl (by omega) (by omega) (by omega) (fun b hb => by cases hb; rw [tq38]; exact ⟨_, rfl, rfl⟩) (Or.inr ⟨_, rfl, by omega, _, _, tq38, by omega, by omega⟩) ?_
                      refine z_aload_n (pc2 := 136) rfl rfl rfl ?_
                      refine z_getP (pc2 := 139) rfl rfl rfl rfl tx6.1 ?_
                      intro p80 p80e p80k
                      replace p80k : p80 = some (x6 + 2) := p80k; clear p80e; subst p80k
                      refine z_iload_n (pc2 := 140) rfl rfl rfl ?_
                      refine z_aconst_null (pc2 := 141) rfl rfl ?_
                      refine z_aast (pc2 := 142) rfl rfl tx6.2.2.1 rfl (by omega) (by omega) (by omega) (fun b hb => by cases hb) (Or.inl rfl) ?_
                      refine z_aload_n (pc2 := 143) rfl rfl rfl ?_
                      refine z_iconst (pc2 := 144) rfl rfl ?_
                      refine z_callV (y2 := 144) (as := [_]) (rest := []) (pc2 := 147) rfl rfl rfl rfl t1 rfl ?_
                      refine z_inl ?_
                      refine z_lv (lv2 := [(0, _), (1, _)]) ⟨rfl, rfl, trivial⟩ ?_
                      refine z_aload_n (pc2 := 1) rfl rfl rfl ?_
                      refine z_iconst (pc2 := 2) rfl rfl ?_
                      refine z_putI (pc2 := 5) rfl rfl rfl rfl rfl rfl t1 (by omega) True.intro ?_
                      refine z_iload_n (pc2 := 6) rfl rfl rfl ?_
                      refine z_iret rfl rfl ?_
                      show zB _ _ _ _ _ _ [_] _ _
                      refine z_iret rfl rfl ?_
                      exact hK _ _ _ _ _ _ _ (zCP_tr (m := n) (zCP_keep2 (n := n) iz78 hb4 k78 f78) (zCP_q ⟨zTn_rf, (zQi_u zQi_rf (by unfold zIr; omega)), (zQp_u (zQp_u zQp_rf (by unfold zPr; omega)) (by unfold zPr; omega))⟩ (zTm_rf _)) (by omega)) (by omega)
                    ·
                      refine z_aload_n (pc2 := 8) rfl rfl rfl ?_
                      refine z_getI (pc2 := 11) 0 rfl rfl rfl rfl rfl tq38 ?_
                      intro v81 e81 r81 k81
                      replace k81 : d39 = v81 := Eq.symm k81; clear r81 e81; subst k81
                      refine z_iconst (pc2 := 12) rfl rfl ?_
                      refine z_icmp_ne (t := 19) (pc2 := 15) rfl rfl rfl (by omega) (by omega) (fun c82 => ?_) (fun c82 => ?_)
                      ·
                        refine z_iconst (pc2 := 20) rfl rfl ?_
                        refine z_zret rfl rfl (by omega) ?_
                        show zB _ _ _ _ _ _ [_] _ _
                        refine z_if_eq (t := 30) (pc2 := 16) rfl rfl rfl (by omega) (fun c83 => ?_) (fun c83 => by exfalso; omega)
                        refine z_iconst (pc2 := 31) rfl rfl ?_
                        refine z_zret rfl rfl (by omega) ?_
                        show zB _ _ _ _ _ _ [_] _ _
                        refine z_if_ne (t := 120) (pc2 := 113) rfl rfl rfl (by omega) (fun c84 => by exfalso; omega) (fun c84 => ?_)
                        refine z_aload_n (pc2 := 114) rfl rfl rfl ?_
                        refine z_bipush (pc2 := 116) rfl rfl (by decide) ?_
                        refine z_callV (y2 := 143) (as := [_]) (rest := []) (pc2 := 119) rfl rfl rfl rfl t1 rfl ?_
                        refine z_inl ?_
                        refine z_lv (lv2 := [(0, _), (1, _)]) ⟨rfl, rfl, trivial⟩ ?_
                        refine z_aload_n (pc2 := 1) rfl rfl rfl ?_
                        refine z_dup (pc2 := 2) rfl rfl rfl ?_
                        refine z_getI (pc2 := 5) 0 rfl rfl rfl rfl rfl t1 ?_
                        intro v85 e85 r85 k85
                        clear k85
                        clear e85
                        refine z_iconst (pc2 := 6) rfl rfl ?_
                        refine z_iadd (pc2 := 7) rfl rfl ?_
                        refine z_putI_any (pc2 := 10) rfl rfl rfl rfl rfl rfl t1 (fun _ _ => True.intro) (fun u86 u86r => ?_)
                        refine z_aload_n (pc2 := 11) rfl rfl rfl ?_
                        refine z_iload_n (pc2 := 12) rfl rfl rfl ?_
                        refine z_putI (pc2 := 15) rfl rfl rfl rfl rfl rfl t1 (by omega) True.intro ?_
                        refine z_iload_n (pc2 := 16) rfl rfl rfl ?_
                        refine z_iret rfl rfl ?_
                        show zB _ _ _ _ _ _ [_] _ _
                        refine z_iret rfl rfl ?_
                        exact hK _ _ _ _ _ _ _ (zCP_q ⟨zTn_rf, (zQi_u (zQi_u zQi_rf (by unfold zIr; omega)) (by unfold zIr; omega)), zQp_rf⟩ (zTm_rf _)) (by omega)
                      ·
                        refine z_iconst (pc2 := 16) rfl rfl ?_
                        refine z_goto (pc2 := 20) rfl rfl ?_
                        refine z_zret rfl rfl (by omega) ?_
                        show zB _ _ _ _ _ _ [_] _ _
                        refine z_if_eq (t := 30) (pc2 := 16) rfl rfl rfl (by omega) (fun c87 => by exfalso; omega) (fun c87 => ?_)
                        refine z_goto (pc2 := 26) rfl rfl ?_
                        refine z_iconst (pc2 := 27) rfl rfl ?_
                        refine z_goto (pc2 := 31) rfl rfl ?_
                        refine z_zret rfl rfl (by omega) ?_
                        show zB _ _ _ _ _ _ [_] _ _
                        refine z_if_ne (t := 120) (pc2 := 113) rfl rfl rfl (by omega) (fun c88 => ?_) (fun c88 => by exfalso; omega)
                        refine z_aload_n (pc2 := 121) rfl rfl rfl ?_
                        refine z_getP (pc2 := 124) rfl rfl rfl rfl t1 ?_
                        intro p89 p89e p89k
                        clear p89k; replace p89e : p89 = some b4 := by rw [p89e]; first | exact p3e | exact Eq.symm p3e | (simp [zU]; first | done | exact p3e | exact Eq.symm p3e | omega)
                        subst p89e
                        refine z_callV (y2 := 77) (as := []) (rest := []) (pc2 := 127) rfl rfl rfl rfl tb4.1 rfl ?_
                        have c90 := hcr
                        obtain ⟨z90, hz90, hd90⟩ := zCR_z c90 hb4 (Eq.symm p5e)
                        have iz90 : z90 = 23 ∨ z90 = 30 ∨ z90 = 42 ∨ z90 = 49 := by omega
                        refine c_Room_keep hn hC hb4 ix6 iz90 (by omega) (c90.2.2 _ ix6) (Eq.symm p5e) hz90 (fun I90 P90 G90 k90 f90 => ?_)
                        show zB _ _ _ _ _ _ [] _ _
                        refine z_aload_n (pc2 := 128) rfl rfl rfl ?_
                        refine z_getP (pc2 := 131) rfl rfl rfl rfl tx6.1 ?_
                        intro p91 p91e p91k
                        replace p91k : p91 = some (x6 + 3) := p91k; clear p91e; subst p91k
                        refine z_iload_n (pc2 := 132) rfl rfl rfl ?_
                        refine z_aload (pc2 := 134) rfl rfl rfl ?_
                        refine z_aast (pc2 := 135) rfl rfl tx6.2.2.2.1 rfl (by omega) (by omega) (by omega) (fun b hb => by cases hb; rw [tq38]; exact ⟨_, rfl, rfl⟩) (Or.inr ⟨_, rfl, by omega, _, _, tq38, by omega, by omega⟩) ?_
                        refine z_aload_n (pc2 := 136) rfl rfl rfl ?_
                        refine z_getP (pc2 := 139) rfl rfl rfl rfl tx6.1 ?_
                        intro p92 p92e p92k
                        replace p92k : p92 = some (x6 + 2) := p92k; clear p92e; subst p92k
                        refine z_iload_n (pc2 := 140) rfl rfl rfl ?_
                        refine z_aconst_null (pc2 := 141) rfl rfl ?_
                        refine z_aast (pc2 := 142) rfl rfl tx6.2.2.1 rfl (by omega) (by omega) (by omega) (fun b hb => by cases hb) (Or.inl rfl) ?_
                        refine z_aload_n (pc2 := 143) rfl rfl rfl ?_
                        refine z_iconst (pc2 := 144) rfl rfl ?_
                        refine z_callV (y2 := 144) (as := [_]) (rest := []) (pc2 := 147) rfl rfl rfl rfl t1 rfl ?_
                        refine z_inl ?_
                        refine z_lv (lv2 := [(0, _), (1, _)]) ⟨rfl, rfl, trivial⟩ ?_
                        refine z_aload_n (pc2 := 1) rfl rfl rfl ?_
                        refine z_iconst (pc2 := 2) rfl rfl ?_
                        refine z_putI (pc2 := 5) rfl rfl rfl rfl rfl rfl t1 (by omega) True.intro ?_
                        refine z_iload_n (pc2 := 6) rfl rfl rfl ?_
                        refine z_iret rfl rfl ?_
                        show zB _ _ _ _ _ _ [_] _ _
                        refine z_iret rfl rfl ?_
                        exact hK _ _ _ _ _ _ _ (zCP_tr (m := n) (zCP_keep2 (n := n) iz90 hb4 k90 f90) (zCP_q ⟨zTn_rf, (zQi_u zQi_rf (by unfold zIr; omega)), (zQp_u (zQp_u zQp_rf (by unfold zPr; omega)) (by unfold zPr; omega))⟩ (zTm_rf _)) (by omega)) (by omega)
          ·
            refine z_aload_n (pc2 := 67) rfl rfl rfl ?_
            refine z_bipush (pc2 := 69) rfl rfl (by decide) ?_
            refine z_callV (y2 := 143) (as := [_]) (rest := []) (pc2 := 72) rfl rfl rfl rfl t1 rfl ?_
            refine z_inl ?_
            refine z_lv (lv2 := [(0, _), (1, _)]) ⟨rfl, rfl, trivial⟩ ?_
            refine z_aload_n (pc2 := 1) rfl rfl rfl ?_
            refine z_dup (pc2 := 2) rfl rfl rfl ?_
            refine z_getI (pc2 := 5) 0 rfl rfl rfl rfl rfl t1 ?_
            intro v93 e93 r93 k93
            clear k93
            clear e93
            refine z_iconst (pc2 := 6) rfl rfl ?_
            refine z_iadd (pc2 := 7) rfl rfl ?_
            refine z_putI_any (pc2 := 10) rfl rfl rfl rfl rfl rfl t1 (fun _ _ => True.intro) (fun u94 u94r => ?_)
            refine z_aload_n (pc2 := 11) rfl rfl rfl ?_
            refine z_iload_n (pc2 := 12) rfl rfl rfl ?_
            refine z_putI (pc2 := 15) rfl rfl rfl rfl rfl rfl t1 (by omega) True.intro ?_
            refine z_iload_n (pc2 := 16) rfl rfl rfl ?_
            refine z_iret rfl rfl ?_
            show zB _ _ _ _ _ _ [_] _ _
            refine z_iret rfl rfl ?_
            exact hK _ _ _ _ _ _ _ (zCP_q ⟨zTn_rf, (zQi_u (zQi_u zQi_rf (by unfold zIr; omega)) (by unfold zIr; omega)), zQp_rf⟩ (zTm_rf _)) (by omega)
        ·
          refine z_iconst (pc2 := 11) rfl rfl ?_
          refine z_goto (pc2 := 15) rfl rfl ?_
          refine z_zret rfl rfl (by omega) ?_
          show zB _ _ _ _ _ _ [_] _ _
          refine z_if_eq (t := 59) (pc2 := 52) rfl rfl rfl (by omega) (fun c95 => by exfalso; omega) (fun c95 => ?_)
          refine z_aload_n (pc2 := 53) rfl rfl rfl ?_
          refine z_bipush (pc2 := 55) rfl rfl (by decide) ?_
          refine z_callV (y2 := 142) (as := [_]) (rest := []) (pc2 := 58) rfl rfl rfl rfl t1 rfl ?_
          refine z_inl ?_
          refine z_lv (lv2 := [(0, _), (1, _)]) ⟨rfl, rfl, trivial⟩ ?_
          refine z_aload_n (pc2 := 1) rfl rfl rfl ?_
          refine z_iload_n (pc2 := 2) rfl rfl rfl ?_
          refine z_putI (pc2 := 5) rfl rfl rfl rfl rfl rfl t1 (by omega) True.intro ?_
          refine z_iload_n (pc2 := 6) rfl rfl rfl ?_
          refine z_iret rfl rfl ?_
          show zB _ _ _ _ _ _ [_] _ _
          refine z_iret rfl rfl ?_
          exact hK _ _ _ _ _ _ _ (zCP_q ⟨zTn_rf, (zQi_u zQi_rf (by unfold zIr; omega)), zQp_rf⟩ (zTm_rf _)) (by omega)
      ·
        refine z_iconst (pc2 := 13) rfl rfl ?_
        refine z_goto (pc2 := 17) rfl rfl ?_
        refine z_zret rfl rfl (by omega) ?_
        show zB _ _ _ _ _ _ [_] _ _
        refine z_if_eq (t := 45) (pc2 := 29) rfl rfl rfl (by omega) (fun c96 => by exfalso; omega) (fun c96 => ?_)
        refine z_aload_n (pc2 := 30) rfl rfl rfl ?_
        refine z_getP (pc2 := 33) rfl rfl rfl rfl tx6.1 ?_
        intro p97 p97e p97k
        replace p97k : p97 = some (x6 + 3) := p97k; clear p97e; subst p97k
        refine z_iload_n (pc2 := 34) rfl rfl rfl ?_
        refine z_aald (pc2 := 35) rfl rfl tx6.2.2.2.1 rfl (by omega) (by omega) (by omega) ?_
        intro p98 p98e p98k
        rcases p98k with rfl | ⟨q99, rfl, q999, d100, n101, tq99, q99c, q99b⟩
        ·
          refine z_ifnull (t := 45) (pc2 := 38) rfl rfl rfl (fun _ => ?_) (fun a h => by cases h)
          refine z_aload_n (pc2 := 46) rfl rfl rfl ?_
          refine z_callV (y2 := 148) (as := []) (rest := []) (pc2 := 49) rfl rfl rfl rfl t1 rfl ?_
          refine z_inl ?_
          refine z_lv (lv2 := [(0, _)]) ⟨rfl, trivial⟩ ?_
          refine z_aload_n (pc2 := 1) rfl rfl rfl ?_
          refine z_getI (pc2 := 4) 0 rfl rfl rfl rfl rfl t1 ?_
          intro v102 e102 r102 k102
          clear k102
          clear e102
          refine z_sipush (pc2 := 7) rfl rfl (by decide) ?_
          refine z_icmp_lt (t := 14) (pc2 := 10) rfl rfl rfl (by omega) (by omega) (fun c103 => ?_) (fun c103 => ?_)
          ·
            refine z_iconst (pc2 := 15) rfl rfl ?_
            refine z_zret rfl rfl (by omega) ?_
            show zB _ _ _ _ _ _ [_] _ _
            refine z_if_eq (t := 59) (pc2 := 52) rfl rfl rfl (by omega) (fun c104 => ?_) (fun c104 => by exfalso; omega)
            refine z_aload_n (pc2 := 60) rfl rfl rfl ?_
            refine z_getI (pc2 := 63) 0 rfl rfl rfl rfl rfl tx6.1 ?_
            intro v105 e105 r105 k105
            replace k105 : (-1 : Int) ≤ v105 ∧ v105 ≤ 8 := k105
            clear e105
            refine z_if_ge (t := 73) (pc2 := 66) rfl rfl rfl (by omega) (fun c106 => ?_) (fun c106 => ?_)
            ·
              refine z_aload_n (pc2 := 74) rfl rfl rfl ?_
              refine z_iload_n (pc2 := 75) rfl rfl rfl ?_
              refine z_callV (y2 := 24) (as := [_]) (rest := []) (pc2 := 78) rfl rfl rfl rfl tx6.1 rfl ?_
              refine z_inl ?_
              refine z_lv (lv2 := [(0, _), (1, _)]) ⟨rfl, rfl, trivial⟩ ?_
              refine z_iload_n (pc2 := 1) rfl rfl rfl ?_
              refine z_if_lt (t := 16) (pc2 := 4) rfl rfl rfl (by omega) (fun c107 => by exfalso; omega) (fun c107 => ?_)
              refine z_iload_n (pc2 := 5) rfl rfl rfl ?_
              refine z_aload_n (pc2 := 6) rfl rfl rfl ?_
              refine z_getI (pc2 := 9) 0 rfl rfl rfl rfl rfl tx6.1 ?_
              intro v108 e108 r108 k108
              replace k108 : (-1 : Int) ≤ v108 ∧ v108 ≤ 8 := k108
              clear e108
              refine z_icmp_ge (t := 16) (pc2 := 12) rfl rfl rfl (by omega) (by omega) (fun c109 => ?_) (fun c109 => ?_)
              ·
                refine z_iconst (pc2 := 17) rfl rfl ?_
                refine z_zret rfl rfl (by omega) ?_
                show zB _ _ _ _ _ _ [_] _ _
                refine z_if_ne (t := 88) (pc2 := 81) rfl rfl rfl (by omega) (fun c110 => by exfalso; omega) (fun c110 => ?_)
                refine z_aload_n (pc2 := 82) rfl rfl rfl ?_
                refine z_bipush (pc2 := 84) rfl rfl (by decide) ?_
                refine z_callV (y2 := 143) (as := [_]) (rest := []) (pc2 := 87) rfl rfl rfl rfl t1 rfl ?_
                refine z_inl ?_
                refine z_lv (lv2 := [(0, _), (1, _)]) ⟨rfl, rfl, trivial⟩ ?_
                refine z_aload_n (pc2 := 1) rfl rfl rfl ?_
                refine z_dup (pc2 := 2) rfl rfl rfl ?_
                refine z_getI (pc2 := 5) 0 rfl rfl rfl rfl rfl t1 ?_
                intro v111 e111 r111 k111
                clear k111
                clear e111
                refine z_iconst (pc2 := 6) rfl rfl ?_
                refine z_iadd (pc2 := 7) rfl rfl ?_
                refine z_putI_any (pc2 := 10) rfl rfl rfl rfl rfl rfl t1 (fun _ _ => True.intro) (fun u112 u112r => ?_)
                refine z_aload_n (pc2 := 11) rfl rfl rfl ?_
                refine z_iload_n (pc2 := 12) rfl rfl rfl ?_
                refine z_putI (pc2 := 15) rfl rfl rfl rfl rfl rfl t1 (by omega) True.intro ?_
                refine z_iload_n (pc2 := 16) rfl rfl rfl ?_
                refine z_iret rfl rfl ?_
                show zB _ _ _ _ _ _ [_] _ _
                refine z_iret rfl rfl ?_
                exact hK _ _ _ _ _ _ _ (zCP_q ⟨zTn_rf, (zQi_u (zQi_u zQi_rf (by unfold zIr; omega)) (by unfold zIr; omega)), zQp_rf⟩ (zTm_rf _)) (by omega)
              ·
                refine z_iconst (pc2 := 13) rfl rfl ?_
                refine z_goto (pc2 := 17) rfl rfl ?_
                refine z_zret rfl rfl (by omega) ?_
                show zB _ _ _ _ _ _ [_] _ _
                refine z_if_ne (t := 88) (pc2 := 81) rfl rfl rfl (by omega) (fun c113 => ?_) (fun c113 => by exfalso; omega)
                refine z_aload_n (pc2 := 89) rfl rfl rfl ?_
                refine z_getP (pc2 := 92) rfl rfl rfl rfl tx6.1 ?_
                intro p114 p114e p114k
                replace p114k : p114 = some (x6 + 2) := p114k; clear p114e; subst p114k
                refine z_iload_n (pc2 := 93) rfl rfl rfl ?_
                refine z_aald (pc2 := 94) rfl rfl tx6.2.2.1 rfl (by omega) (by omega) (by omega) ?_
                intro p115 p115e p115k
                rcases p115k with rfl | ⟨q116, rfl, q1169, d117, n118, tq116, q116c, q116b⟩
                ·
                  refine z_astore (lv2 := [(4, _), (3, _), (0, _), (1, _), (2, _)]) (pc2 := 96) rfl rfl rfl rfl ?_
                  refine z_aload (pc2 := 98) rfl rfl rfl ?_
                  refine z_ifnull (t := 120) (pc2 := 101) rfl rfl rfl (fun _ => ?_) (fun a h => by cases h)
                  refine z_aload_n (pc2 := 121) rfl rfl rfl ?_
                  refine z_getP (pc2 := 124) rfl rfl rfl rfl t1 ?_
                  intro p119 p119e p119k
                  clear p119k; replace p119e : p119 = some b4 := by rw [p119e]; first | exact p3e | exact Eq.symm p3e | (simp [zU]; first | done | exact p3e | exact Eq.symm p3e | omega)
                  subst p119e
                  refine z_callV (y2 := 77) (as := []) (rest := []) (pc2 := 127) rfl rfl rfl rfl tb4.1 rfl ?_
                  have c120 := hcr
                  obtain ⟨z120, hz120, hd120⟩ := zCR_z c120 hb4 (Eq.symm p5e)
                  have iz120 : z120 = 23 ∨ z120 = 30 ∨ z120 = 42 ∨ z120 = 49 := by omega
                  refine c_Room_keep hn hC hb4 ix6 iz120 (by omega) (c120.2.2 _ ix6) (Eq.symm p5e) hz120 (fun I120 P120 G120 k120 f120 => ?_)
                  show zB _ _ _ _ _ _ [] _ _
                  refine z_aload_n (pc2 := 128) rfl rfl rfl ?_
                  refine z_getP (pc2 := 131) rfl rfl rfl rfl tx6.1 ?_
                  intro p121 p121e p121k
                  replace p121k : p121 = some (x6 + 3) := p121k; clear p121e; subst p121k
                  refine z_iload_n (pc2 := 132) rfl rfl rfl ?_
                  refine z_aload (pc2 := 134) rfl rfl rfl ?_
                  refine z_aast (pc2 := 135) rfl rfl tx6.2.2.2.1 rfl (by omega) (by omega) (by omega) (fun b hb => by cases hb) (Or.inl rfl) ?_
                  refine z_aload_n (pc2 := 136) rfl rfl rfl ?_
                  refine z_getP (pc2 := 139) rfl rfl rfl rfl tx6.1 ?_
                  intro p122 p122e p122k
                  replace p122k : p122 = some (x6 + 2) := p122k; clear p122e; subst p122k
                  refine z_iload_n (pc2 := 140) rfl rfl rfl ?_
                  refine z_aconst_null (pc2 := 141) rfl rfl ?_
                  refine z_aast (pc2 := 142) rfl rfl tx6.2.2.1 rfl (by omega) (by omega) (by omega) (fun b hb => by cases hb) (Or.inl rfl) ?_
                  refine z_aload_n (pc2 := 143) rfl rfl rfl ?_
                  refine z_iconst (pc2 := 144) rfl rfl ?_
                  refine z_callV (y2 := 144) (as := [_]) (rest := []) (pc2 := 147) rfl rfl rfl rfl t1 rfl ?_
                  refine z_inl ?_
                  refine z_lv (lv2 := [(0, _), (1, _)]) ⟨rfl, rfl, trivial⟩ ?_
                  refine z_aload_n (pc2 := 1) rfl rfl rfl ?_
                  refine z_iconst (pc2 := 2) rfl rfl ?_
                  refine z_putI (pc2 := 5) rfl rfl rfl rfl rfl rfl t1 (by omega) True.intro ?_
                  refine z_iload_n (pc2 := 6) rfl rfl rfl ?_
                  refine z_iret rfl rfl ?_
                  show zB _ _ _ _ _ _ [_] _ _
                  refine z_iret rfl rfl ?_
                  exact hK _ _ _ _ _ _ _ (zCP_tr (m := n) (zCP_keep2 (n := n) iz120 hb4 k120 f120) (zCP_q ⟨zTn_rf, (zQi_u zQi_rf (by unfold zIr; omega)), (zQp_u (zQp_u zQp_rf (by unfold zPr; omega)) (by unfold zPr; omega))⟩ (zTm_rf _)) (by omega)) (by omega)
                ·
                  replace tq116 : _ = ((1, 9, [1, d117, n118]) : zT) := tq116
                  refine zB_le tq116 trivial (fun q116l => ?_)
                  refine z_astore (lv2 := [(4, _), (3, _), (0, _), (1, _), (2, _)]) (pc2 := 96) rfl rfl rfl rfl ?_
                  refine z_aload (pc2 := 98) rfl rfl rfl ?_
                  refine z_ifnull (t := 120) (pc2 := 101) rfl rfl rfl (fun h => by cases h) (fun _ _ => ?_)
                  refine z_aload (pc2 := 103) rfl rfl rfl ?_
                  refine z_aload_n (pc2 := 104) rfl rfl rfl ?_
                  refine z_getI (pc2 := 107) 0 rfl rfl rfl rfl rfl tx6.1 ?_
                  intro v123 e123 r123 k123
                  clear k123
                  clear e123
                  refine z_callV (y2 := 87) (as := [_]) (rest := []) (pc2 := 110) rfl rfl rfl rfl tq116 rfl ?_
                  refine z_inl ?_
                  refine z_lv (lv2 := [(0, _), (1, _)]) ⟨rfl, rfl, trivial⟩ ?_
                  refine z_iload_n (pc2 := 1) rfl rfl rfl ?_
                  refine z_if_eq (t := 26) (pc2 := 4) rfl rfl rfl (by omega) (fun c124 => ?_) (fun c124 => ?_)
                  ·
                    refine z_iconst (pc2 := 27) rfl rfl ?_
                    refine z_goto (pc2 := 31) rfl rfl ?_
                    refine z_zret rfl rfl (by omega) ?_
                    show zB _ _ _ _ _ _ [_] _ _
                    refine z_if_ne (t := 120) (pc2 := 113) rfl rfl rfl (by omega) (fun c125 => ?_) (fun c125 => by exfalso; omega)
                    refine z_aload_n (pc2 := 121) rfl rfl rfl ?_
                    refine z_getP (pc2 := 124) rfl rfl rfl rfl t1 ?_
                    intro p126 p126e p126k
                    clear p126k; replace p126e : p126 = some b4 := by rw [p126e]; first | exact p3e | exact Eq.symm p3e | (simp [zU]; first | done | exact p3e | exact Eq.symm p3e | omega)
                    subst p126e
                    refine z_callV (y2 := 77) (as := []) (rest := []) (pc2 := 127) rfl rfl rfl rfl tb4.1 rfl ?_
                    have c127 := hcr
                    obtain ⟨z127, hz127, hd127⟩ := zCR_z c127 hb4 (Eq.symm p5e)
                    have iz127 : z127 = 23 ∨ z127 = 30 ∨ z127 = 42 ∨ z127 = 49 := by omega
                    refine c_Room_keep hn hC hb4 ix6 iz127 (by omega) (c127.2.2 _ ix6) (Eq.symm p5e) hz127 (fun I127 P127 G127 k127 f127 => ?_)
                    show zB _ _ _ _ _ _ [] _ _
                    refine z_aload_n (pc2 := 128) rfl rfl rfl ?_
                    refine z_getP (pc2 := 131) rfl rfl rfl rfl tx6.1 ?_
                    intro p128 p128e p128k
                    replace p128k : p128 = some (x6 + 3) := p128k; clear p128e; subst p128k
                    refine z_iload_n (pc2 := 132) rfl rfl rfl ?_
                    refine z_aload (pc2 := 134) rfl rfl rfl ?_
                    refine z_aast (pc2 := 135) rfl rfl tx6.2.2.2.1 rfl (by omega) (by omega) (by omega) (fun b hb => by cases hb; rw [tq116]; exact ⟨_, rfl, rfl⟩) (Or.inr ⟨_, rfl, by omega, _, _, tq116, by omega, by omega⟩) ?_
                    refine z_aload_n (pc2 := 136) rfl rfl rfl ?_
                    refine z_getP (pc2 := 139) rfl rfl rfl rfl tx6.1 ?_
                    intro p129 p129e p129k
                    replace p129k : p129 = some (x6 + 2) := p129k; clear p129e; subst p129k
                    refine z_iload_n (pc2 := 140) rfl rfl rfl ?_
                    refine z_aconst_null (pc2 := 141) rfl rfl ?_
                    refine z_aast (pc2 := 142) rfl rfl tx6.2.2.1 rfl (by omega) (by omega) (by omega) (fun b hb => by cases hb) (Or.inl rfl) ?_
                    refine z_aload_n (pc2 := 143) rfl rfl rfl ?_
                    refine z_iconst (pc2 := 144) rfl rfl ?_
                    refine z_callV (y2 := 144) (as := [_]) (rest := []) (pc2 := 147) rfl rfl rfl rfl t1 rfl ?_
                    refine z_inl ?_
                    refine z_lv (lv2 := [(0, _), (1, _)]) ⟨rfl, rfl, trivial⟩ ?_
                    refine z_aload_n (pc2 := 1) rfl rfl rfl ?_
                    refine z_iconst (pc2 := 2) rfl rfl ?_
                    refine z_putI (pc2 := 5) rfl rfl rfl rfl rfl rfl t1 (by omega) True.intro ?_
                    refine z_iload_n (pc2 := 6) rfl rfl rfl ?_
                    refine z_iret rfl rfl ?_
                    show zB _ _ _ _ _ _ [_] _ _
                    refine z_iret rfl rfl ?_
                    exact hK _ _ _ _ _ _ _ (zCP_tr (m := n) (zCP_keep2 (n := n) iz127 hb4 k127 f127) (zCP_q ⟨zTn_rf, (zQi_u zQi_rf (by unfold zIr; omega)), (zQp_u (zQp_u zQp_rf (by unfold zPr; omega)) (by unfold zPr; omega))⟩ (zTm_rf _)) (by omega)) (by omega)
                  ·
                    refine z_iload_n (pc2 := 5) rfl rfl rfl ?_
                    refine z_iconst (pc2 := 6) rfl rfl ?_
                    refine z_icmp_ne (t := 19) (pc2 := 9) rfl rfl rfl (by omega) (by omega) (fun c130 => ?_) (fun c130 => ?_)
                    ·
                      refine z_aload_n (pc2 := 20) rfl rfl rfl ?_
                      refine z_callV (y2 := 86) (as := []) (rest := []) (pc2 := 23) rfl rfl rfl rfl tq116 rfl ?_
                      refine z_inl ?_
                      refine z_lv (lv2 := [(0, _)]) ⟨rfl, trivial⟩ ?_
                      refine z_aload_n (pc2 := 1) rfl rfl rfl ?_
                      refine z_getI (pc2 := 4) 0 rfl rfl rfl rfl rfl tq116 ?_
                      intro v131 e131 r131 k131
                      replace k131 : d117 = v131 := Eq.symm k131; clear r131 e131; subst k131
                      refine z_iconst (pc2 := 5) rfl rfl ?_
                      refine z_icmp_eq (t := 16) (pc2 := 8) rfl rfl rfl (by omega) (by omega) (fun c132 => ?_) (fun c132 => ?_)
                      ·
                        refine z_iconst (pc2 := 17) rfl rfl ?_
                        refine z_goto (pc2 := 21) rfl rfl ?_
                        refine z_zret rfl rfl (by omega) ?_
                        show zB _ _ _ _ _ _ [_] _ _
                        refine z_if_eq (t := 30) (pc2 := 26) rfl rfl rfl (by omega) (fun c133 => by exfalso; omega) (fun c133 => ?_)
                        refine z_iconst (pc2 := 27) rfl rfl ?_
                        refine z_goto (pc2 := 31) rfl rfl ?_
                        refine z_zret rfl rfl (by omega) ?_
                        show zB _ _ _ _ _ _ [_] _ _
                        refine z_if_ne (t := 120) (pc2 := 113) rfl rfl rfl (by omega) (fun c134 => ?_) (fun c134 => by exfalso; omega)
                        refine z_aload_n (pc2 := 121) rfl rfl rfl ?_
                        refine z_getP (pc2 := 124) rfl rfl rfl rfl t1 ?_
                        intro p135 p135e p135k
                        clear p135k; replace p135e : p135 = some b4 := by rw [p135e]; first | exact p3e | exact Eq.symm p3e | (simp [zU]; first | done | exact p3e | exact Eq.symm p3e | omega)
                        subst p135e
                        refine z_callV (y2 := 77) (as := []) (rest := []) (pc2 := 127) rfl rfl rfl rfl tb4.1 rfl ?_
                        have c136 := hcr
                        obtain ⟨z136, hz136, hd136⟩ := zCR_z c136 hb4 (Eq.symm p5e)
                        have iz136 : z136 = 23 ∨ z136 = 30 ∨ z136 = 42 ∨ z136 = 49 := by omega
                        refine c_Room_keep hn hC hb4 ix6 iz136 (by omega) (c136.2.2 _ ix6) (Eq.symm p5e) hz136 (fun I136 P136 G136 k136 f136 => ?_)
                        show zB _ _ _ _ _ _ [] _ _
                        refine z_aload_n (pc2 := 128) rfl rfl rfl ?_
                        refine z_getP (pc2 := 131) rfl rfl rfl rfl tx6.1 ?_
                        intro p137 p137e p137k
                        replace p137k : p137 = some (x6 + 3) := p137k; clear p137e; subst p137k
                        refine z_iload_n (pc2 := 132) rfl rfl rfl ?_
                        refine z_aload (pc2 := 134) rfl rfl rfl ?_
                        refine z_aast (pc2 := 135) rfl rfl tx6.2.2.2.1 rfl (by omega) (by omega) (by omega) (fun b hb => by cases hb; rw [tq116]; exact ⟨_, rfl, rfl⟩) (Or.inr ⟨_, rfl, by omega, _, _, tq116, by omega, by omega⟩) ?_
                        refine z_aload_n (pc2 := 136) rfl rfl rfl ?_
                        refine z_getP (pc2 := 139) rfl rfl rfl rfl tx6.1 ?_
                        intro p138 p138e p138k
                        replace p138k : p138 = some (x6 + 2) := p138k; clear p138e; subst p138k
                        refine z_iload_n (pc2 := 140) rfl rfl rfl ?_
                        refine z_aconst_null (pc2 := 141) rfl rfl ?_
                        refine z_aast (pc2 := 142) rfl rfl tx6.2.2.1 rfl (by omega) (by omega) (by omega) (fun b hb => by cases hb) (Or.inl rfl) ?_
                        refine z_aload_n (pc2 := 143) rfl rfl rfl ?_
                        refine z_iconst (pc2 := 144) rfl rfl ?_
                        refine z_callV (y2 := 144) (as := [_]) (rest := []) (pc2 := 147) rfl rfl rfl rfl t1 rfl ?_
                        refine z_inl ?_
                        refine z_lv (lv2 := [(0, _), (1, _)]) ⟨rfl, rfl, trivial⟩ ?_
                        refine z_aload_n (pc2 := 1) rfl rfl rfl ?_
                        refine z_iconst (pc2 := 2) rfl rfl ?_
                        refine z_putI (pc2 := 5) rfl rfl rfl rfl rfl rfl t1 (by omega) True.intro ?_
                        refine z_iload_n (pc2 := 6) rfl rfl rfl ?_
                        refine z_iret rfl rfl ?_
                        show zB _ _ _ _ _ _ [_] _ _
                        refine z_iret rfl rfl ?_
                        exact hK _ _ _ _ _ _ _ (zCP_tr (m := n) (zCP_keep2 (n := n) iz136 hb4 k136 f136) (zCP_q ⟨zTn_rf, (zQi_u zQi_rf (by unfold zIr; omega)), (zQp_u (zQp_u zQp_rf (by unfold zPr; omega)) (by unfold zPr; omega))⟩ (zTm_rf _)) (by omega)) (by omega)
                      ·
                        refine z_aload_n (pc2 := 9) rfl rfl rfl ?_
                        refine z_getI (pc2 := 12) 0 rfl rfl rfl rfl rfl tq116 ?_
                        intro v139 e139 r139 k139
                        replace k139 : d117 = v139 := Eq.symm k139; clear r139 e139; subst k139
                        refine z_iconst (pc2 := 13) rfl rfl ?_
                        refine z_icmp_ne (t := 20) (pc2 := 16) rfl rfl rfl (by omega) (by omega) (fun c140 => ?_) (fun c140 => ?_)
                        ·
                          refine z_iconst (pc2 := 21) rfl rfl ?_
                          refine z_zret rfl rfl (by omega) ?_
                          show zB _ _ _ _ _ _ [_] _ _
                          refine z_if_eq (t := 30) (pc2 := 26) rfl rfl rfl (by omega) (fun c141 => ?_) (fun c141 => by exfalso; omega)
                          refine z_iconst (pc2 := 31) rfl rfl ?_
                          refine z_zret rfl rfl (by omega) ?_
                          show zB _ _ _ _ _ _ [_] _ _
                          refine z_if_ne (t := 120) (pc2 := 113) rfl rfl rfl (by omega) (fun c142 => by exfalso; omega) (fun c142 => ?_)
                          refine z_aload_n (pc2 := 114) rfl rfl rfl ?_
                          refine z_bipush (pc2 := 116) rfl rfl (by decide) ?_
                          refine z_callV (y2 := 143) (as := [_]) (rest := []) (pc2 := 119) rfl rfl rfl rfl t1 rfl ?_
                          refine z_inl ?_
                          refine z_lv (lv2 := [(0, _), (1, _)]) ⟨rfl, rfl, trivial⟩ ?_
                          refine z_aload_n (pc2 := 1) rfl rfl rfl ?_
                          refine z_dup (pc2 := 2) rfl rfl rfl ?_
                          refine z_getI (pc2 := 5) 0 rfl rfl rfl rfl rfl t1 ?_
                          intro v143 e143 r143 k143
                          clear k143
                          clear e143
                          refine z_iconst (pc2 := 6) rfl rfl ?_
                          refine z_iadd (pc2 := 7) rfl rfl ?_
                          refine z_putI_any (pc2 := 10) rfl rfl rfl rfl rfl rfl t1 (fun _ _ => True.intro) (fun u144 u144r => ?_)
                          refine z_aload_n (pc2 := 11) rfl rfl rfl ?_
                          refine z_iload_n (pc2 := 12) rfl rfl rfl ?_
                          refine z_putI (pc2 := 15) rfl rfl rfl rfl rfl rfl t1 (by omega) True.intro ?_
                          refine z_iload_n (pc2 := 16) rfl rfl rfl ?_
                          refine z_iret rfl rfl ?_
                          show zB _ _ _ _ _ _ [_] _ _
                          refine z_iret rfl rfl ?_
                          exact hK _ _ _ _ _ _ _ (zCP_q ⟨zTn_rf, (zQi_u (zQi_u zQi_rf (by unfold zIr; omega)) (by unfold zIr; omega)), zQp_rf⟩ (zTm_rf _)) (by omega)
                        ·
                          refine z_iconst (pc2 := 17) rfl rfl ?_
                          refine z_goto (pc2 := 21) rfl rfl ?_
                          refine z_zret rfl rfl (by omega) ?_
                          show zB _ _ _ _ _ _ [_] _ _
                          refine z_if_eq (t := 30) (pc2 := 26) rfl rfl rfl (by omega) (fun c145 => by exfalso; omega) (fun c145 => ?_)
                          refine z_iconst (pc2 := 27) rfl rfl ?_
                          refine z_goto (pc2 := 31) rfl rfl ?_
                          refine z_zret rfl rfl (by omega) ?_
                          show zB _ _ _ _ _ _ [_] _ _
                          refine z_if_ne (t := 120) (pc2 := 113) rfl rfl rfl (by omega) (fun c146 => ?_) (fun c146 => by exfalso; omega)
                          refine z_aload_n (pc2 := 121) rfl rfl rfl ?_
                          refine z_getP (pc2 := 124) rfl rfl rfl rfl t1 ?_
                          intro p147 p147e p147k
                          clear p147k; replace p147e : p147 = some b4 := by rw [p147e]; first | exact p3e | exact Eq.symm p3e | (simp [zU]; first | done | exact p3e | exact Eq.symm p3e | omega)
                          subst p147e
                          refine z_callV (y2 := 77) (as := []) (rest := []) (pc2 := 127) rfl rfl rfl rfl tb4.1 rfl ?_
                          have c148 := hcr
                          obtain ⟨z148, hz148, hd148⟩ := zCR_z c148 hb4 (Eq.symm p5e)
                          have iz148 : z148 = 23 ∨ z148 = 30 ∨ z148 = 42 ∨ z148 = 49 := by omega
                          refine c_Room_keep hn hC hb4 ix6 iz148 (by omega) (c148.2.2 _ ix6) (Eq.symm p5e) hz148 (fun I148 P148 G148 k148 f148 => ?_)
                          show zB _ _ _ _ _ _ [] _ _
                          refine z_aload_n (pc2 := 128) rfl rfl rfl ?_
                          refine z_getP (pc2 := 131) rfl rfl rfl rfl tx6.1 ?_
                          intro p149 p149e p149k
                          replace p149k : p149 = some (x6 + 3) := p149k; clear p149e; subst p149k
                          refine z_iload_n (pc2 := 132) rfl rfl rfl ?_
                          refine z_aload (pc2 := 134) rfl rfl rfl ?_
                          refine z_aast (pc2 := 135) rfl rfl tx6.2.2.2.1 rfl (by omega) (by omega) (by omega) (fun b hb => by cases hb; rw [tq116]; exact ⟨_, rfl, rfl⟩) (Or.inr ⟨_, rfl, by omega, _, _, tq116, by omega, by omega⟩) ?_
                          refine z_aload_n (pc2 := 136) rfl rfl rfl ?_
                          refine z_getP (pc2 := 139) rfl rfl rfl rfl tx6.1 ?_
                          intro p150 p150e p150k
                          replace p150k : p150 = some (x6 + 2) := p150k; clear p150e; subst p150k
                          refine z_iload_n (pc2 := 140) rfl rfl rfl ?_
                          refine z_aconst_null (pc2 := 141) rfl rfl ?_
                          refine z_aast (pc2 := 142) rfl rfl tx6.2.2.1 rfl (by omega) (by omega) (by omega) (fun b hb => by cases hb) (Or.inl rfl) ?_
                          refine z_aload_n (pc2 := 143) rfl rfl rfl ?_
                          refine z_iconst (pc2 := 144) rfl rfl ?_
                          refine z_callV (y2 := 144) (as := [_]) (rest := []) (pc2 := 147) rfl rfl rfl rfl t1 rfl ?_
                          refine z_inl ?_
                          refine z_lv (lv2 := [(0, _), (1, _)]) ⟨rfl, rfl, trivial⟩ ?_
                          refine z_aload_n (pc2 := 1) rfl rfl rfl ?_
                          refine z_iconst (pc2 := 2) rfl rfl ?_
                          refine z_putI (pc2 := 5) rfl rfl rfl rfl rfl rfl t1 (by omega) True.intro ?_
                          refine z_iload_n (pc2 := 6) rfl rfl rfl ?_
                          refine z_iret rfl rfl ?_
                          show zB _ _ _ _ _ _ [_] _ _
                          refine z_iret rfl rfl ?_
                          exact hK _ _ _ _ _ _ _ (zCP_tr (m := n) (zCP_keep2 (n := n) iz148 hb4 k148 f148) (zCP_q ⟨zTn_rf, (zQi_u zQi_rf (by unfold zIr; omega)), (zQp_u (zQp_u zQp_rf (by unfold zPr; omega)) (by unfold zPr; omega))⟩ (zTm_rf _)) (by omega)) (by omega)
                    ·
                      refine z_aload_n (pc2 := 10) rfl rfl rfl ?_
                      refine z_callV (y2 := 85) (as := []) (rest := []) (pc2 := 13) rfl rfl rfl rfl tq116 rfl ?_
                      refine z_inl ?_
                      refine z_lv (lv2 := [(0, _)]) ⟨rfl, trivial⟩ ?_
                      refine z_aload_n (pc2 := 1) rfl rfl rfl ?_
                      refine z_getI (pc2 := 4) 0 rfl rfl rfl rfl rfl tq116 ?_
                      intro v151 e151 r151 k151
                      replace k151 : d117 = v151 := Eq.symm k151; clear r151 e151; subst k151
                      refine z_if_eq (t := 15) (pc2 := 7) rfl rfl rfl (by omega) (fun c152 => ?_) (fun c152 => ?_)
                      ·
                        refine z_iconst (pc2 := 16) rfl rfl ?_
                        refine z_goto (pc2 := 20) rfl rfl ?_
                        refine z_zret rfl rfl (by omega) ?_
                        show zB _ _ _ _ _ _ [_] _ _
                        refine z_if_eq (t := 30) (pc2 := 16) rfl rfl rfl (by omega) (fun c153 => by exfalso; omega) (fun c153 => ?_)
                        refine z_goto (pc2 := 26) rfl rfl ?_
                        refine z_iconst (pc2 := 27) rfl rfl ?_
                        refine z_goto (pc2 := 31) rfl rfl ?_
                        refine z_zret rfl rfl (by omega) ?_
                        show zB _ _ _ _ _ _ [_] _ _
                        refine z_if_ne (t := 120) (pc2 := 113) rfl rfl rfl (by omega) (fun c154 => ?_) (fun c154 => by exfalso; omega)
                        refine z_aload_n (pc2 := 121) rfl rfl rfl ?_
                        refine z_getP (pc2 := 124) rfl rfl rfl rfl t1 ?_
                        intro p155 p155e p155k
                        clear p155k; replace p155e : p155 = some b4 := by rw [p155e]; first | exact p3e | exact Eq.symm p3e | (simp [zU]; first | done | exact p3e | exact Eq.symm p3e | omega)
                        subst p155e
                        refine z_callV (y2 := 77) (as := []) (rest := []) (pc2 := 127) rfl rfl rfl rfl tb4.1 rfl ?_
                        have c156 := hcr
                        obtain ⟨z156, hz156, hd156⟩ := zCR_z c156 hb4 (Eq.symm p5e)
                        have iz156 : z156 = 23 ∨ z156 = 30 ∨ z156 = 42 ∨ z156 = 49 := by omega
                        refine c_Room_keep hn hC hb4 ix6 iz156 (by omega) (c156.2.2 _ ix6) (Eq.symm p5e) hz156 (fun I156 P156 G156 k156 f156 => ?_)
                        show zB _ _ _ _ _ _ [] _ _
                        refine z_aload_n (pc2 := 128) rfl rfl rfl ?_
                        refine z_getP (pc2 := 131) rfl rfl rfl rfl tx6.1 ?_
                        intro p157 p157e p157k
                        replace p157k : p157 = some (x6 + 3) := p157k; clear p157e; subst p157k
                        refine z_iload_n (pc2 := 132) rfl rfl rfl ?_
                        refine z_aload (pc2 := 134) rfl rfl rfl ?_
                        refine z_aast (pc2 := 135) rfl rfl tx6.2.2.2.1 rfl (by omega) (by omega) (by omega) (fun b hb => by cases hb; rw [tq116]; exact ⟨_, rfl, rfl⟩) (Or.inr ⟨_, rfl, by omega, _, _, tq116, by omega, by omega⟩) ?_
                        refine z_aload_n (pc2 := 136) rfl rfl rfl ?_
                        refine z_getP (pc2 := 139) rfl rfl rfl rfl tx6.1 ?_
                        intro p158 p158e p158k
                        replace p158k : p158 = some (x6 + 2) := p158k; clear p158e; subst p158k
                        refine z_iload_n (pc2 := 140) rfl rfl rfl ?_
                        refine z_aconst_null (pc2 := 141) rfl rfl ?_
                        refine z_aast (pc2 := 142) rfl rfl tx6.2.2.1 rfl (by omega) (by omega) (by omega) (fun b hb => by cases hb) (Or.inl rfl) ?_
                        refine z_aload_n (pc2 := 143) rfl rfl rfl ?_
                        refine z_iconst (pc2 := 144) rfl rfl ?_
                        refine z_callV (y2 := 144) (as := [_]) (rest := []) (pc2 := 147) rfl rfl rfl rfl t1 rfl ?_
                        refine z_inl ?_
                        refine z_lv (lv2 := [(0, _), (1, _)]) ⟨rfl, rfl, trivial⟩ ?_
                        refine z_aload_n (pc2 := 1) rfl rfl rfl ?_
                        refine z_iconst (pc2 := 2) rfl rfl ?_
                        refine z_putI (pc2 := 5) rfl rfl rfl rfl rfl rfl t1 (by omega) True.intro ?_
                        refine z_iload_n (pc2 := 6) rfl rfl rfl ?_
                        refine z_iret rfl rfl ?_
                        show zB _ _ _ _ _ _ [_] _ _
                        refine z_iret rfl rfl ?_
                        exact hK _ _ _ _ _ _ _ (zCP_tr (m := n) (zCP_keep2 (n := n) iz156 hb4 k156 f156) (zCP_q ⟨zTn_rf, (zQi_u zQi_rf (by unfold zIr; omega)), (zQp_u (zQp_u zQp_rf (by unfold zPr; omega)) (by unfold zPr; omega))⟩ (zTm_rf _)) (by omega)) (by omega)
                      ·
                        refine z_aload_n (pc2 := 8) rfl rfl rfl ?_
                        refine z_getI (pc2 := 11) 0 rfl rfl rfl rfl rfl tq116 ?_
                        intro v159 e159 r159 k159
                        replace k159 : d117 = v159 := Eq.symm k159; clear r159 e159; subst k159
                        refine z_iconst (pc2 := 12) rfl rfl ?_
                        refine z_icmp_ne (t := 19) (pc2 := 15) rfl rfl rfl (by omega) (by omega) (fun c160 => ?_) (fun c160 => ?_)
                        ·
                          refine z_iconst (pc2 := 20) rfl rfl ?_
                          refine z_zret rfl rfl (by omega) ?_
                          show zB _ _ _ _ _ _ [_] _ _
                          refine z_if_eq (t := 30) (pc2 := 16) rfl rfl rfl (by omega) (fun c161 => ?_) (fun c161 => by exfalso; omega)
                          refine z_iconst (pc2 := 31) rfl rfl ?_
                          refine z_zret rfl rfl (by omega) ?_
                          show zB _ _ _ _ _ _ [_] _ _
                          refine z_if_ne (t := 120) (pc2 := 113) rfl rfl rfl (by omega) (fun c162 => by exfalso; omega) (fun c162 => ?_)
                          refine z_aload_n (pc2 := 114) rfl rfl rfl ?_
                          refine z_bipush (pc2 := 116) rfl rfl (by decide) ?_
                          refine z_callV (y2 := 143) (as := [_]) (rest := []) (pc2 := 119) rfl rfl rfl rfl t1 rfl ?_
                          refine z_inl ?_
                          refine z_lv (lv2 := [(0, _), (1, _)]) ⟨rfl, rfl, trivial⟩ ?_
                          refine z_aload_n (pc2 := 1) rfl rfl rfl ?_
                          refine z_dup (pc2 := 2) rfl rfl rfl ?_
                          refine z_getI (pc2 := 5) 0 rfl rfl rfl rfl rfl t1 ?_
                          intro v163 e163 r163 k163
                          clear k163
                          clear e163
                          refine z_iconst (pc2 := 6) rfl rfl ?_
                          refine z_iadd (pc2 := 7) rfl rfl ?_
                          refine z_putI_any (pc2 := 10) rfl rfl rfl rfl rfl rfl t1 (fun _ _ => True.intro) (fun u164 u164r => ?_)
                          refine z_aload_n (pc2 := 11) rfl rfl rfl ?_
                          refine z_iload_n (pc2 := 12) rfl rfl rfl ?_
                          refine z_putI (pc2 := 15) rfl rfl rfl rfl rfl rfl t1 (by omega) True.intro ?_
                          refine z_iload_n (pc2 := 16) rfl rfl rfl ?_
                          refine z_iret rfl rfl ?_
                          show zB _ _ _ _ _ _ [_] _ _
                          refine z_iret rfl rfl ?_
                          exact hK _ _ _ _ _ _ _ (zCP_q ⟨zTn_rf, (zQi_u (zQi_u zQi_rf (by unfold zIr; omega)) (by unfold zIr; omega)), zQp_rf⟩ (zTm_rf _)) (by omega)
                        ·
                          refine z_iconst (pc2 := 16) rfl rfl ?_
                          refine z_goto (pc2 := 20) rfl rfl ?_
                          refine z_zret rfl rfl (by omega) ?_
                          show zB _ _ _ _ _ _ [_] _ _
                          refine z_if_eq (t := 30) (pc2 := 16) rfl rfl rfl (by omega) (fun c165 => by exfalso; omega) (fun c165 => ?_)
                          refine z_goto (pc2 := 26) rfl rfl ?_
                          refine z_iconst (pc2 := 27) rfl rfl ?_
                          refine z_goto (pc2 := 31) rfl rfl ?_
                          refine z_zret rfl rfl (by omega) ?_
                          show zB _ _ _ _ _ _ [_] _ _
                          refine z_if_ne (t := 120) (pc2 := 113) rfl rfl rfl (by omega) (fun c166 => ?_) (fun c166 => by exfalso; omega)
                          refine z_aload_n (pc2 := 121) rfl rfl rfl ?_
                          refine z_getP (pc2 := 124) rfl rfl rfl rfl t1 ?_
                          intro p167 p167e p167k
                          clear p167k; replace p167e : p167 = some b4 := by rw [p167e]; first | exact p3e | exact Eq.symm p3e | (simp [zU]; first | done | exact p3e | exact Eq.symm p3e | omega)
                          subst p167e
                          refine z_callV (y2 := 77) (as := []) (rest := []) (pc2 := 127) rfl rfl rfl rfl tb4.1 rfl ?_
                          have c168 := hcr
                          obtain ⟨z168, hz168, hd168⟩ := zCR_z c168 hb4 (Eq.symm p5e)
                          have iz168 : z168 = 23 ∨ z168 = 30 ∨ z168 = 42 ∨ z168 = 49 := by omega
                          refine c_Room_keep hn hC hb4 ix6 iz168 (by omega) (c168.2.2 _ ix6) (Eq.symm p5e) hz168 (fun I168 P168 G168 k168 f168 => ?_)
                          show zB _ _ _ _ _ _ [] _ _
                          refine z_aload_n (pc2 := 128) rfl rfl rfl ?_
                          refine z_getP (pc2 := 131) rfl rfl rfl rfl tx6.1 ?_
                          intro p169 p169e p169k
                          replace p169k : p169 = some (x6 + 3) := p169k; clear p169e; subst p169k
                          refine z_iload_n (pc2 := 132) rfl rfl rfl ?_
                          refine z_aload (pc2 := 134) rfl rfl rfl ?_
                          refine z_aast (pc2 := 135) rfl rfl tx6.2.2.2.1 rfl (by omega) (by omega) (by omega) (fun b hb => by cases hb; rw [tq116]; exact ⟨_, rfl, rfl⟩) (Or.inr ⟨_, rfl, by omega, _, _, tq116, by omega, by omega⟩) ?_
                          refine z_aload_n (pc2 := 136) rfl rfl rfl ?_
                          refine z_getP (pc2 := 139) rfl rfl rfl rfl tx6.1 ?_
                          intro p170 p170e p170k
                          replace p170k : p170 = some (x6 + 2) := p170k; clear p170e; subst p170k
                          refine z_iload_n (pc2 := 140) rfl rfl rfl ?_
                          refine z_aconst_null (pc2 := 141) rfl rfl ?_
                          refine z_aast (pc2 := 142) rfl rfl tx6.2.2.1 rfl (by omega) (by omega) (by omega) (fun b hb => by cases hb) (Or.inl rfl) ?_
                          refine z_aload_n (pc2 := 143) rfl rfl rfl ?_
                          refine z_iconst (pc2 := 144) rfl rfl ?_
                          refine z_callV (y2 := 144) (as := [_]) (rest := []) (pc2 := 147) rfl rfl rfl rfl t1 rfl ?_
                          refine z_inl ?_
                          refine z_lv (lv2 := [(0, _), (1, _)]) ⟨rfl, rfl, trivial⟩ ?_
                          refine z_aload_n (pc2 := 1) rfl rfl rfl ?_
                          refine z_iconst (pc2 := 2) rfl rfl ?_
                          refine z_putI (pc2 := 5) rfl rfl rfl rfl rfl rfl t1 (by omega) True.intro ?_
                          refine z_iload_n (pc2 := 6) rfl rfl rfl ?_
                          refine z_iret rfl rfl ?_
                          show zB _ _ _ _ _ _ [_] _ _
                          refine z_iret rfl rfl ?_
                          exact hK _ _ _ _ _ _ _ (zCP_tr (m := n) (zCP_keep2 (n := n) iz168 hb4 k168 f168) (zCP_q ⟨zTn_rf, (zQi_u zQi_rf (by unfold zIr; omega)), (zQp_u (zQp_u zQp_rf (by unfold zPr; omega)) (by unfold zPr; omega))⟩ (zTm_rf _)) (by omega)) (by omega)
            ·
              refine z_aload_n (pc2 := 67) rfl rfl rfl ?_
              refine z_bipush (pc2 := 69) rfl rfl (by decide) ?_
              refine z_callV (y2 := 143) (as := [_]) (rest := []) (pc2 := 72) rfl rfl rfl rfl t1 rfl ?_
              refine z_inl ?_
              refine z_lv (lv2 := [(0, _), (1, _)]) ⟨rfl, rfl, trivial⟩ ?_
              refine z_aload_n (pc2 := 1) rfl rfl rfl ?_
              refine z_dup (pc2 := 2) rfl rfl rfl ?_
              refine z_getI (pc2 := 5) 0 rfl rfl rfl rfl rfl t1 ?_
              intro v171 e171 r171 k171
              clear k171
              clear e171
              refine z_iconst (pc2 := 6) rfl rfl ?_
              refine z_iadd (pc2 := 7) rfl rfl ?_
              refine z_putI_any (pc2 := 10) rfl rfl rfl rfl rfl rfl t1 (fun _ _ => True.intro) (fun u172 u172r => ?_)
              refine z_aload_n (pc2 := 11) rfl rfl rfl ?_
              refine z_iload_n (pc2 := 12) rfl rfl rfl ?_
              refine z_putI (pc2 := 15) rfl rfl rfl rfl rfl rfl t1 (by omega) True.intro ?_
              refine z_iload_n (pc2 := 16) rfl rfl rfl ?_
              refine z_iret rfl rfl ?_
              show zB _ _ _ _ _ _ [_] _ _
              refine z_iret rfl rfl ?_
              exact hK _ _ _ _ _ _ _ (zCP_q ⟨zTn_rf, (zQi_u (zQi_u zQi_rf (by unfold zIr; omega)) (by unfold zIr; omega)), zQp_rf⟩ (zTm_rf _)) (by omega)
          ·
            refine z_iconst (pc2 := 11) rfl rfl ?_
            refine z_goto (pc2 := 15) rfl rfl ?_
            refine z_zret rfl rfl (by omega) ?_
            show zB _ _ _ _ _ _ [_] _ _
            refine z_if_eq (t := 59) (pc2 := 52) rfl rfl rfl (by omega) (fun c173 => by exfalso; omega) (fun c173 => ?_)
            refine z_aload_n (pc2 := 53) rfl rfl rfl ?_
            refine z_bipush (pc2 := 55) rfl rfl (by decide) ?_
            refine z_callV (y2 := 142) (as := [_]) (rest := []) (pc2 := 58) rfl rfl rfl rfl t1 rfl ?_
            refine z_inl ?_
            refine z_lv (lv2 := [(0, _), (1, _)]) ⟨rfl, rfl, trivial⟩ ?_
            refine z_aload_n (pc2 := 1) rfl rfl rfl ?_
            refine z_iload_n (pc2 := 2) rfl rfl rfl ?_
            refine z_putI (pc2 := 5) rfl rfl rfl rfl rfl rfl t1 (by omega) True.intro ?_
            refine z_iload_n (pc2 := 6) rfl rfl rfl ?_
            refine z_iret rfl rfl ?_
            show zB _ _ _ _ _ _ [_] _ _
            refine z_iret rfl rfl ?_
            exact hK _ _ _ _ _ _ _ (zCP_q ⟨zTn_rf, (zQi_u zQi_rf (by unfold zIr; omega)), zQp_rf⟩ (zTm_rf _)) (by omega)
        ·
          replace tq99 : _ = ((1, 9, [1, d100, n101]) : zT) := tq99
          refine zB_le tq99 trivial (fun q99l => ?_)
          refine z_ifnull (t := 45) (pc2 := 38) rfl rfl rfl (fun h => by cases h) (fun _ _ => ?_)
          refine z_aload_n (pc2 := 39) rfl rfl rfl ?_
          refine z_bipush (pc2 := 41) rfl rfl (by decide) ?_
          refine z_callV (y2 := 142) (as := [_]) (rest := []) (pc2 := 44) rfl rfl rfl rfl t1 rfl ?_
          refine z_inl ?_
          refine z_lv (lv2 := [(0, _), (1, _)]) ⟨rfl, rfl, trivial⟩ ?_
          refine z_aload_n (pc2 := 1) rfl rfl rfl ?_
          refine z_iload_n (pc2 := 2) rfl rfl rfl ?_
          refine z_putI (pc2 := 5) rfl rfl rfl rfl rfl rfl t1 (by omega) True.intro ?_
          refine z_iload_n (pc2 := 6) rfl rfl rfl ?_
          refine z_iret rfl rfl ?_
          show zB _ _ _ _ _ _ [_] _ _
          refine z_iret rfl rfl ?_
          exact hK _ _ _ _ _ _ _ (zCP_q ⟨zTn_rf, (zQi_u zQi_rf (by unfold zIr; omega)), zQp_rf⟩ (zTm_rf _)) (by omega)
  ·
    refine z_aload_n (pc2 := 8) rfl rfl rfl ?_
    refine z_iconst (pc2 := 9) rfl rfl ?_
    refine z_callV (y2 := 142) (as := [_]) (rest := []) (pc2 := 12) rfl rfl rfl rfl t1 rfl ?_
    refine z_inl ?_
    refine z_lv (lv2 := [(0, _), (1, _)]) ⟨rfl, rfl, trivial⟩ ?_
    refine z_aload_n (pc2 := 1) rfl rfl rfl ?_
    refine z_iload_n (pc2 := 2) rfl rfl rfl ?_
    refine z_putI (pc2 := 5) rfl rfl rfl rfl rfl rfl t1 (by omega) True.intro ?_
    refine z_iload_n (pc2 := 6) rfl rfl rfl ?_
    refine z_iret rfl rfl ?_
    show zB _ _ _ _ _ _ [_] _ _
    refine z_iret rfl rfl ?_
    exact hK _ _ _ _ _ _ _ (zCP_q ⟨zTn_rf, (zQi_u zQi_rf (by unfold zIr; omega)), zQp_rf⟩ (zTm_rf _)) (by omega)
set_option maxHeartbeats 8000000 in
theorem c_TypeRoom_pick {L : Nat} {xs : Nat → Int32} {n sl : Nat} {T : Nat → zT} {I : Nat → Nat → Int} {P : Nat → Nat → Option Nat} {G : Nat → Nat → Int} {K : List zV → zH → Prop} {a c : Int} (hn : 90 ≤ n) (hC : ∀ a, 1 ≤ a → a ≤ 55 → T a = zFixC a) (ha : zR a) (hc : zR c) (hcr : zCR T I P) (hK : ∀ e n2 sl2 T2 I2 P2 G2, zCP n T T2 I I2 P P2 → (n ≤ n2 ∧ n2 ≤ n + 0 ∧ sl2 ≤ sl + 0) → K [.inl e] (n2, sl2, T2, I2, P2, G2)) : zX zMd L xs 125 [.inr (.inl (some 1)), .inl a, .inl c] (n, sl, T, I, P, G) K := by
  have t1 : T 1 = (1, 11, [1]) := hC 1 (by decide) (by decide)
  refine z_inl ?_
  refine z_lv (lv2 := [(0, _), (1, _), (2, _)]) ⟨rfl, rfl, rfl, trivial⟩ ?_
  refine z_iload_n (pc2 := 1) rfl rfl rfl ?_
  refine z_callS (y2 := 153) (as := [_]) (rest := []) (pc2 := 4) rfl rfl rfl rfl ?_
  refine z_inl ?_
  refine z_lv (lv2 := [(0, _)]) ⟨rfl, trivial⟩ ?_
  refine z_iload_n (pc2 := 1) rfl rfl rfl ?_
  refine z_iconst (pc2 := 2) rfl rfl ?_
  refine z_bipush (pc2 := 4) rfl rfl (by decide) ?_
  refine z_callS (y2 := 155) (as := [_, _, _]) (rest := []) (pc2 := 7) rfl rfl rfl rfl ?_
  refine c_TypeRoom_isOutside (by omega) (by omega) (by omega) (fun e1 e1a e1b e1c => ?_)
  show zB _ _ _ _ _ _ [_] _ _
  refine z_zret rfl rfl (by omega) ?_
  show zB _ _ _ _ _ _ [_] _ _
  refine z_if_eq (t := 13) (pc2 := 7) rfl rfl rfl (by omega) (fun c2 => ?_) (fun c2 => ?_)
  ·
    refine z_aload_n (pc2 := 14) rfl rfl rfl ?_
    refine z_getP (pc2 := 17) rfl rfl rfl rfl t1 ?_
    intro p3 p3e p3k
    obtain ⟨b4, rfl, hb4⟩ := zHere p3k
    have tb4 := zRm_t hC hb4
    refine z_getP (pc2 := 20) rfl rfl rfl rfl tb4.1 ?_
    intro p5 p5e p5k
    obtain ⟨x6, rfl, hx6⟩ := zFloorOf p5k
    have ix6 : x6 = 23 ∨ x6 = 30 ∨ x6 = 42 ∨ x6 = 49 := by omega
    have tx6 := zFl_t hC ix6
    refine z_astore_n (lv2 := [(3, _), (0, _), (1, _), (2, _)]) (pc2 := 21) rfl rfl rfl rfl ?_
    refine z_aload_n (pc2 := 22) rfl rfl rfl ?_
    refine z_getP (pc2 := 25) rfl rfl rfl rfl tx6.1 ?_
    intro p7 p7e p7k
    replace p7k : p7 = some (x6 + 2) := p7k; clear p7e; subst p7k
    refine z_iload_n (pc2 := 26) rfl rfl rfl ?_
    refine z_aald (pc2 := 27) rfl rfl tx6.2.2.1 rfl (by omega) (by omega) (by omega) ?_
    intro p8 p8e p8k
    rcases p8k with rfl | ⟨q9, rfl, q99, d10, n11, tq9, q9c, q9b⟩
    ·
      refine z_ifnull (t := 37) (pc2 := 30) rfl rfl rfl (fun _ => ?_) (fun a h => by cases h)
      refine z_aload_n (pc2 := 38) rfl rfl rfl ?_
      refine z_callV (y2 := 148) (as := []) (rest := []) (pc2 := 41) rfl rfl rfl rfl t1 rfl ?_
      refine z_inl ?_
      refine z_lv (lv2 := [(0, _)]) ⟨rfl, trivial⟩ ?_
      refine z_aload_n (pc2 := 1) rfl rfl rfl ?_
      refine z_getI (pc2 := 4) 0 rfl rfl rfl rfl rfl t1 ?_
      intro v12 e12 r12 k12
      clear k12
      clear e12
      refine z_sipush (pc2 := 7) rfl rfl (by decide) ?_
      refine z_icmp_lt (t := 14) (pc2 := 10) rfl rfl rfl (by omega) (by omega) (fun c13 => ?_) (fun c13 => ?_)
      ·
        refine z_iconst (pc2 := 15) rfl rfl ?_
        refine z_zret rfl rfl (by omega) ?_
        show zB _ _ _ _ _ _ [_] _ _
        refine z_if_eq (t := 51) (pc2 := 44) rfl rfl rfl (by omega) (fun c14 => ?_) (fun c14 => by exfalso; omega)
        refine z_aload_n (pc2 := 52) rfl rfl rfl ?_
        refine z_getI (pc2 := 55) 0 rfl rfl rfl rfl rfl tx6.1 ?_
        intro v15 e15 r15 k15
        replace k15 : (-1 : Int) ≤ v15 ∧ v15 ≤ 8 := k15
        clear e15
        refine z_if_ge (t := 65) (pc2 := 58) rfl rfl rfl (by omega) (fun c16 => ?_) (fun c16 => ?_)
        ·
          refine z_aload_n (pc2 := 66) rfl rfl rfl ?_
          refine z_iload_n (pc2 := 67) rfl rfl rfl ?_
          refine z_callV (y2 := 24) (as := [_]) (rest := []) (pc2 := 70) rfl rfl rfl rfl tx6.1 rfl ?_
          refine z_inl ?_
          refine z_lv (lv2 := [(0, _), (1, _)]) ⟨rfl, rfl, trivial⟩ ?_
          refine z_iload_n (pc2 := 1) rfl rfl rfl ?_
          refine z_if_lt (t := 16) (pc2 := 4) rfl rfl rfl (by omega) (fun c17 => ?_) (fun c17 => ?_)
          ·
            refine z_iconst (pc2 := 17) rfl rfl ?_
            refine z_zret rfl rfl (by omega) ?_
            show zB _ _ _ _ _ _ [_] _ _
            refine z_if_ne (t := 80) (pc2 := 73) rfl rfl rfl (by omega) (fun c18 => by exfalso; omega) (fun c18 => ?_)
            refine z_aload_n (pc2 := 74) rfl rfl rfl ?_
            refine z_bipush (pc2 := 76) rfl rfl (by decide) ?_
            refine z_callV (y2 := 143) (as := [_]) (rest := []) (pc2 := 79) rfl rfl rfl rfl t1 rfl ?_
            refine z_inl ?_
            refine z_lv (lv2 := [(0, _), (1, _)]) ⟨rfl, rfl, trivial⟩ ?_
            refine z_aload_n (pc2 := 1) rfl rfl rfl ?_
            refine z_dup (pc2 := 2) rfl rfl rfl ?_
            refine z_getI (pc2 := 5) 0 rfl rfl rfl rfl rfl t1 ?_
            intro v19 e19 r19 k19
            clear k19
            clear e19
            refine z_iconst (pc2 := 6) rfl rfl ?_
            refine z_iadd (pc2 := 7) rfl rfl ?_
            refine z_putI_any (pc2 := 10) rfl rfl rfl rfl rfl rfl t1 (fun _ _ => True.intro) (fun u20 u20r => ?_)
            refine z_aload_n (pc2 := 11) rfl rfl rfl ?_
            refine z_iload_n (pc2 := 12) rfl rfl rfl ?_
            refine z_putI (pc2 := 15) rfl rfl rfl rfl rfl rfl t1 (by omega) True.intro ?_
            refine z_iload_n (pc2 := 16) rfl rfl rfl ?_
            refine z_iret rfl rfl ?_
            show zB _ _ _ _ _ _ [_] _ _
            refine z_iret rfl rfl ?_
            exact hK _ _ _ _ _ _ _ (zCP_q ⟨zTn_rf, (zQi_u (zQi_u zQi_rf (by unfold zIr; omega)) (by unfold zIr; omega)), zQp_rf⟩ (zTm_rf _)) (by omega)
          ·
            refine z_iload_n (pc2 := 5) rfl rfl rfl ?_
            refine z_aload_n (pc2 := 6) rfl rfl rfl ?_
            refine z_getI (pc2 := 9) 0 rfl rfl rfl rfl rfl tx6.1 ?_
            intro v21 e21 r21 k21
            replace k21 : (-1 : Int) ≤ v21 ∧ v21 ≤ 8 := k21
            clear e21
            refine z_icmp_ge (t := 16) (pc2 := 12) rfl rfl rfl (by omega) (by omega) (fun c22 => ?_) (fun c22 => ?_)
            ·
              refine z_iconst (pc2 := 17) rfl rfl ?_
              refine z_zret rfl rfl (by omega) ?_
              show zB _ _ _ _ _ _ [_] _ _
              refine z_if_ne (t := 80) (pc2 := 73) rfl rfl rfl (by omega) (fun c23 => by exfalso; omega) (fun c23 => ?_)
              refine z_aload_n (pc2 := 74) rfl rfl rfl ?_
              refine z_bipush (pc2 := 76) rfl rfl (by decide) ?_
              refine z_callV (y2 := 143) (as := [_]) (rest := []) (pc2 := 79) rfl rfl rfl rfl t1 rfl ?_
              refine z_inl ?_
              refine z_lv (lv2 := [(0, _), (1, _)]) ⟨rfl, rfl, trivial⟩ ?_
              refine z_aload_n (pc2 := 1) rfl rfl rfl ?_
              refine z_dup (pc2 := 2) rfl rfl rfl ?_
              refine z_getI (pc2 := 5) 0 rfl rfl rfl rfl rfl t1 ?_
              intro v24 e24 r24 k24
              clear k24
              clear e24
              refine z_iconst (pc2 := 6) rfl rfl ?_
              refine z_iadd (pc2 := 7) rfl rfl ?_
              refine z_putI_any (pc2 := 10) rfl rfl rfl rfl rfl rfl t1 (fun _ _ => True.intro) (fun u25 u25r => ?_)
              refine z_aload_n (pc2 := 11) rfl rfl rfl ?_
              refine z_iload_n (pc2 := 12) rfl rfl rfl ?_
              refine z_putI (pc2 := 15) rfl rfl rfl rfl rfl rfl t1 (by omega) True.intro ?_
              refine z_iload_n (pc2 := 16) rfl rfl rfl ?_
              refine z_iret rfl rfl ?_
              show zB _ _ _ _ _ _ [_] _ _
              refine z_iret rfl rfl ?_
              exact hK _ _ _ _ _ _ _ (zCP_q ⟨zTn_rf, (zQi_u (zQi_u zQi_rf (by unfold zIr; omega)) (by unfold zIr; omega)), zQp_rf⟩ (zTm_rf _)) (by omega)
            ·
              refine z_iconst (pc2 := 13) rfl rfl ?_
              refine z_goto (pc2 := 17) rfl rfl ?_
              refine z_zret rfl rfl (by omega) ?_
              show zB _ _ _ _ _ _ [_] _ _
              refine z_if_ne (t := 80) (pc2 := 73) rfl rfl rfl (by omega) (fun c26 => ?_) (fun c26 => by exfalso; omega)
              refine z_aload_n (pc2 := 81) rfl rfl rfl ?_
              refine z_getP (pc2 := 84) rfl rfl rfl rfl t1 ?_
              intro p27 p27e p27k
              clear p27k; replace p27e : p27 = some b4 := by rw [p27e]; first | exact p3e | exact Eq.symm p3e | (simp [zU]; first | done | exact p3e | exact Eq.symm p3e | omega)
              subst p27e
              refine z_callV (y2 := 77) (as := []) (rest := []) (pc2 := 87) rfl rfl rfl rfl tb4.1 rfl ?_
              have c28 := hcr
              obtain ⟨z28, hz28, hd28⟩ := zCR_z c28 hb4 (Eq.symm p5e)
              have iz28 : z28 = 23 ∨ z28 = 30 ∨ z28 = 42 ∨ z28 = 49 := by omega
              refine c_Room_keep hn hC hb4 ix6 iz28 (by omega) (c28.2.2 _ ix6) (Eq.symm p5e) hz28 (fun I28 P28 G28 k28 f28 => ?_)
              show zB _ _ _ _ _ _ [] _ _
              refine z_aload_n (pc2 := 88) rfl rfl rfl ?_
              refine z_getP (pc2 := 91) rfl rfl rfl rfl tx6.1 ?_
              intro p29 p29e p29k
              replace p29k : p29 = some (x6 + 2) := p29k; clear p29e; subst p29k
              refine z_iload_n (pc2 := 92) rfl rfl rfl ?_
              refine z_aload_n (pc2 := 93) rfl rfl rfl ?_
              refine z_getP (pc2 := 96) rfl rfl rfl rfl tx6.1 ?_
              intro p30 p30e p30k
              replace p30k : p30 = some (x6 + 3) := p30k; clear p30e; subst p30k
              refine z_iload_n (pc2 := 97) rfl rfl rfl ?_
              refine z_aald (pc2 := 98) rfl rfl tx6.2.2.2.1 rfl (by omega) (by omega) (by omega) ?_
              intro p31 p31e p31k
              rcases p31k with rfl | ⟨q32, rfl, q329, d33, n34, tq32, q32c, q32b⟩
              ·
                refine z_aast (pc2 := 99) rfl rfl tx6.2.2.1 rfl (by omega) (by omega) (by omega) (fun b hb => by cases hb) (Or.inl rfl) ?_
                refine z_aload_n (pc2 := 100) rfl rfl rfl ?_
                refine z_getP (pc2 := 103) rfl rfl rfl rfl tx6.1 ?_
                intro p35 p35e p35k
                replace p35k : p35 = some (x6 + 3) := p35k; clear p35e; subst p35k
                refine z_iload_n (pc2 := 104) rfl rfl rfl ?_
                refine z_aconst_null (pc2 := 105) rfl rfl ?_
                refine z_aast (pc2 := 106) rfl rfl tx6.2.2.2.1 rfl (by omega) (by omega) (by omega) (fun b hb => by cases hb) (Or.inl rfl) ?_
                refine z_aload_n (pc2 := 107) rfl rfl rfl ?_
                refine z_iconst (pc2 := 108) rfl rfl ?_
                refine z_callV (y2 := 144) (as := [_]) (rest := []) (pc2 := 111) rfl rfl rfl rfl t1 rfl ?_
                refine z_inl ?_
                refine z_lv (lv2 := [(0, _), (1, _)]) ⟨rfl, rfl, trivial⟩ ?_
                refine z_aload_n (pc2 := 1) rfl rfl rfl ?_
                refine z_iconst (pc2 := 2) rfl rfl ?_
                refine z_putI (pc2 := 5) rfl rfl rfl rfl rfl rfl t1 (by omega) True.intro ?_
                refine z_iload_n (pc2 := 6) rfl rfl rfl ?_
                refine z_iret rfl rfl ?_
                show zB _ _ _ _ _ _ [_] _ _
                refine z_iret rfl rfl ?_
                exact hK _ _ _ _ _ _ _ (zCP_tr (m := n) (zCP_keep2 (n := n) iz28 hb4 k28 f28) (zCP_q ⟨zTn_rf, (zQi_u zQi_rf (by unfold zIr; omega)), (zQp_u (zQp_u zQp_rf (by unfold zPr; omega)) (by unfold zPr; omega))⟩ (zTm_rf _)) (by omega)) (by omega)
              ·
                replace tq32 : _ = ((1, 9, [1, d33, n34]) : zT) := tq32
                refine zB_le tq32 trivial (fun q32l => ?_)
                refine z_aast (pc2 := 99) rfl rfl tx6.2.2.1 rfl (by omega) (by omega) (by omega) (fun b hb => by cases hb; rw [tq32]; exact ⟨_, rfl, rfl⟩) (Or.inr ⟨_, rfl, by omega, _, _, tq32, by omega, by omega⟩) ?_
                refine z_aload_n (pc2 := 100) rfl rfl rfl ?_
                refine z_getP (pc2 := 103) rfl rfl rfl rfl tx6.1 ?_
                intro p36 p36e p36k
                replace p36k : p36 = some (x6 + 3) := p36k; clear p36e; subst p36k
                refine z_iload_n (pc2 := 104) rfl rfl rfl ?_
                refine z_aconst_null (pc2 := 105) rfl rfl ?_
                refine z_aast (pc2 := 106) rfl rfl tx6.2.2.2.1 rfl (by omega) (by omega) (by omega) (fun b hb => by cases hb) (Or.inl rfl) ?_
                refine z_aload_n (pc2 := 107) rfl rfl rfl ?_
                refine z_iconst (pc2 := 108) rfl rfl ?_
                refine z_callV (y2 := 144) (as := [_]) (rest := []) (pc2 := 111) rfl rfl rfl rfl t1 rfl ?_
                refine z_inl ?_
                refine z_lv (lv2 := [(0, _), (1, _)]) ⟨rfl, rfl, trivial⟩ ?_
                refine z_aload_n (pc2 := 1) rfl rfl rfl ?_
                refine z_iconst (pc2 := 2) rfl rfl ?_
                refine z_putI (pc2 := 5) rfl rfl rfl rfl rfl rfl t1 (by omega) True.intro ?_
                refine z_iload_n (pc2 := 6) rfl rfl rfl ?_
                refine z_iret rfl rfl ?_
                show zB _ _ _ _ _ _ [_] _ _
                refine z_iret rfl rfl ?_
                exact hK _ _ _ _ _ _ _ (zCP_tr (m := n) (zCP_keep2 (n := n) iz28 hb4 k28 f28) (zCP_q ⟨zTn_rf, (zQi_u zQi_rf (by unfold zIr; omega)), (zQp_u (zQp_u zQp_rf (by unfold zPr; omega)) (by unfold zPr; omega))⟩ (zTm_rf _)) (by omega)) (by omega)
        ·
          refine z_aload_n (pc2 := 59) rfl rfl rfl ?_
          refine z_bipush (pc2 := 61) rfl rfl (by decide) ?_
          refine z_callV (y2 := 143) (as := [_]) (rest := []) (pc2 := 64) rfl rfl rfl rfl t1 rfl ?_
          refine z_inl ?_
          refine z_lv (lv2 := [(0, _), (1, _)]) ⟨rfl, rfl, trivial⟩ ?_
          refine z_aload_n (pc2 := 1) rfl rfl rfl ?_
          refine z_dup (pc2 := 2) rfl rfl rfl ?_
          refine z_getI (pc2 := 5) 0 rfl rfl rfl rfl rfl t1 ?_
          intro v37 e37 r37 k37
          clear k37
          clear e37
          refine z_iconst (pc2 := 6) rfl rfl ?_
          refine z_iadd (pc2 := 7) rfl rfl ?_
          refine z_putI_any (pc2 := 10) rfl rfl rfl rfl rfl rfl t1 (fun _ _ => True.intro) (fun u38 u38r => ?_)
          refine z_aload_n (pc2 := 11) rfl rfl rfl ?_
          refine z_iload_n (pc2 := 12) rfl rfl rfl ?_
          refine z_putI (pc2 := 15) rfl rfl rfl rfl rfl rfl t1 (by omega) True.intro ?_
          refine z_iload_n (pc2 := 16) rfl rfl rfl ?_
          refine z_iret rfl rfl ?_
          show zB _ _ _ _ _ _ [_] _ _
          refine z_iret rfl rfl ?_
          exact hK _ _ _ _ _ _ _ (zCP_q ⟨zTn_rf, (zQi_u (zQi_u zQi_rf (by unfold zIr; omega)) (by unfold zIr; omega)), zQp_rf⟩ (zTm_rf _)) (by omega)
      ·
        refine z_iconst (pc2 := 11) rfl rfl ?_
        refine z_goto (pc2 := 15) rfl rfl ?_
        refine z_zret rfl rfl (by omega) ?_
        show zB _ _ _ _ _ _ [_] _ _
        refine z_if_eq (t := 51) (pc2 := 44) rfl rfl rfl (by omega) (fun c39 => by exfalso; omega) (fun c39 => ?_)
        refine z_aload_n (pc2 := 45) rfl rfl rfl ?_
        refine z_bipush (pc2 := 47) rfl rfl (by decide) ?_
        refine z_callV (y2 := 142) (as := [_]) (rest := []) (pc2 := 50) rfl rfl rfl rfl t1 rfl ?_
        refine z_inl ?_
        refine z_lv (lv2 := [(0, _), (1, _)]) ⟨rfl, rfl, trivial⟩ ?_
        refine z_aload_n (pc2 := 1) rfl rfl rfl ?_
        refine z_iload_n (pc2 := 2) rfl rfl rfl ?_
        refine z_putI (pc2 := 5) rfl rfl rfl rfl rfl rfl t1 (by omega) True.intro ?_
        refine z_iload_n (pc2 := 6) rfl rfl rfl ?_
        refine z_iret rfl rfl ?_
        show zB _ _ _ _ _ _ [_] _ _
        refine z_iret rfl rfl ?_
        exact hK _ _ _ _ _ _ _ (zCP_q ⟨zTn_rf, (zQi_u zQi_rf (by unfold zIr; omega)), zQp_rf⟩ (zTm_rf _)) (by omega)
    ·
      replace tq9 : _ = ((1, 9, [1, d10, n11]) : zT) := tq9
      refine zB_le tq9 trivial (fun q9l => ?_)
      refine z_ifnull (t := 37) (pc2 := 30) rfl rfl rfl (fun h => by cases h) (fun _ _ => ?_)
      refine z_aload_n (pc2 := 31) rfl rfl rfl ?_
      refine z_bipush (pc2 := 33) rfl rfl (by decide) ?_
      refine z_callV (y2 := 142) (as := [_]) (rest := []) (pc2 := 36) rfl rfl rfl rfl t1 rfl ?_
      refine z_inl ?_
      refine z_lv (lv2 := [(0, _), (1, _)]) ⟨rfl, rfl, trivial⟩ ?_
      refine z_aload_n (pc2 := 1) rfl rfl rfl ?_
      refine z_iload_n (pc2 := 2) rfl rfl rfl ?_
      refine z_putI (pc2 := 5) rfl rfl rfl rfl rfl rfl t1 (by omega) True.intro ?_
      refine z_iload_n (pc2 := 6) rfl rfl rfl ?_
      refine z_iret rfl rfl ?_
      show zB _ _ _ _ _ _ [_] _ _
      refine z_iret rfl rfl ?_
      exact hK _ _ _ _ _ _ _ (zCP_q ⟨zTn_rf, (zQi_u zQi_rf (by unfold zIr; omega)), zQp_rf⟩ (zTm_rf _)) (by omega)
  ·
    refine z_aload_n (pc2 := 8) rfl rfl rfl ?_
    refine z_iconst (pc2 := 9) rfl rfl ?_
    refine z_callV (y2 := 142) (as := [_]) (rest := []) (pc2 := 12) rfl rfl rfl rfl t1 rfl ?_
    refine z_inl ?_
    refine z_lv (lv2 := [(0, _), (1, _)]) ⟨rfl, rfl, trivial⟩ ?_
    refine z_aload_n (pc2 := 1) rfl rfl rfl ?_
    refine z_iload_n (pc2 := 2) rfl rfl rfl ?_
    refine z_putI (pc2 := 5) rfl rfl rfl rfl rfl rfl t1 (by omega) True.intro ?_
    refine z_iload_n (pc2 := 6) rfl rfl rfl ?_
    refine z_iret rfl rfl ?_
    show zB _ _ _ _ _ _ [_] _ _
    refine z_iret rfl rfl ?_
    exact hK _ _ _ _ _ _ _ (zCP_q ⟨zTn_rf, (zQi_u zQi_rf (by unfold zIr; omega)), zQp_rf⟩ (zTm_rf _)) (by omega)
set_option maxHeartbeats 8000000 in
theorem c_TypeRoom_ask {L : Nat} {xs : Nat → Int32} {n sl : Nat} {T : Nat → zT} {I : Nat → Nat → Int} {P : Nat → Nat → Option Nat} {G : Nat → Nat → Int} {K : List zV → zH → Prop} {a c : Int} (hn : 90 ≤ n) (hC : ∀ a, 1 ≤ a → a ≤ 55 → T a = zFixC a) (ha : zR a) (hc : zR c) (hcr : zCR T I P) (hK : ∀ e n2 sl2 T2 I2 P2 G2, zCP n T T2 I I2 P P2 → (n ≤ n2 ∧ n2 ≤ n + 0 ∧ sl2 ≤ sl + 0) → K [.inl e] (n2, sl2, T2, I2, P2, G2)) : zX zMd L xs 121 [.inr (.inl (some 1)), .inl a, .inl c] (n, sl, T, I, P, G) K := by
  have t1 : T 1 = (1, 11, [1]) := hC 1 (by decide) (by decide)
  have t3 : T 3 = (1, 10, [1]) := hC 3 (by decide) (by decide)
  refine z_inl ?_
  refine z_lv (lv2 := [(0, _), (1, _), (2, _)]) ⟨rfl, rfl, rfl, trivial⟩ ?_
  refine z_iload_n (pc2 := 1) rfl rfl rfl ?_
  refine z_callS (y2 := 153) (as := [_]) (rest := []) (pc2 := 4) rfl rfl rfl rfl ?_
  refine z_inl ?_
  refine z_lv (lv2 := [(0, _)]) ⟨rfl, trivial⟩ ?_
  refine z_iload_n (pc2 := 1) rfl rfl rfl ?_
  refine z_iconst (pc2 := 2) rfl rfl ?_
  refine z_bipush (pc2 := 4) rfl rfl (by decide) ?_
  refine z_callS (y2 := 155) (as := [_, _, _]) (rest := []) (pc2 := 7) rfl rfl rfl rfl ?_
  refine c_TypeRoom_isOutside (by omega) (by omega) (by omega) (fun e1 e1a e1b e1c => ?_)
  show zB _ _ _ _ _ _ [_] _ _
  refine z_zret rfl rfl (by omega) ?_
  show zB _ _ _ _ _ _ [_] _ _
  refine z_if_ne (t := 17) (pc2 := 7) rfl rfl rfl (by omega) (fun c2 => ?_) (fun c2 => ?_)
  ·
    refine z_aload_n (pc2 := 18) rfl rfl rfl ?_
    refine z_iconst (pc2 := 19) rfl rfl ?_
    refine z_callV (y2 := 142) (as := [_]) (rest := []) (pc2 := 22) rfl rfl rfl rfl t1 rfl ?_
    refine z_inl ?_
    refine z_lv (lv2 := [(0, _), (1, _)]) ⟨rfl, rfl, trivial⟩ ?_
    refine z_aload_n (pc2 := 1) rfl rfl rfl ?_
    refine z_iload_n (pc2 := 2) rfl rfl rfl ?_
    refine z_putI (pc2 := 5) rfl rfl rfl rfl rfl rfl t1 (by omega) True.intro ?_
    refine z_iload_n (pc2 := 6) rfl rfl rfl ?_
    refine z_iret rfl rfl ?_
    show zB _ _ _ _ _ _ [_] _ _
    refine z_iret rfl rfl ?_
    exact hK _ _ _ _ _ _ _ (zCP_q ⟨zTn_rf, (zQi_u zQi_rf (by unfold zIr; omega)), zQp_rf⟩ (zTm_rf _)) (by omega)
  ·
    refine z_iload_n (pc2 := 8) rfl rfl rfl ?_
    refine z_iconst (pc2 := 9) rfl rfl ?_
    refine z_bipush (pc2 := 11) rfl rfl (by decide) ?_
    refine z_callS (y2 := 155) (as := [_, _, _]) (rest := []) (pc2 := 14) rfl rfl rfl rfl ?_
    refine c_TypeRoom_isOutside (by omega) (by omega) (by omega) (fun e3 e3a e3b e3c => ?_)
    show zB _ _ _ _ _ _ [_] _ _
    refine z_if_eq (t := 23) (pc2 := 17) rfl rfl rfl (by omega) (fun c4 => ?_) (fun c4 => ?_)
    ·
      refine z_aload_n (pc2 := 24) rfl rfl rfl ?_
      refine z_callV (y2 := 148) (as := []) (rest := []) (pc2 := 27) rfl rfl rfl rfl t1 rfl ?_
      refine z_inl ?_
      refine z_lv (lv2 := [(0, _)]) ⟨rfl, trivial⟩ ?_
      refine z_aload_n (pc2 := 1) rfl rfl rfl ?_
      refine z_getI (pc2 := 4) 0 rfl rfl rfl rfl rfl t1 ?_
      intro v5 e5 r5 k5
      clear k5
      clear e5
      refine z_sipush (pc2 := 7) rfl rfl (by decide) ?_
      refine z_icmp_lt (t := 14) (pc2 := 10) rfl rfl rfl (by omega) (by omega) (fun c6 => ?_) (fun c6 => ?_)
      ·
        refine z_iconst (pc2 := 15) rfl rfl ?_
        refine z_zret rfl rfl (by omega) ?_
        show zB _ _ _ _ _ _ [_] _ _
        refine z_if_eq (t := 37) (pc2 := 30) rfl rfl rfl (by omega) (fun c7 => ?_) (fun c7 => by exfalso; omega)
        refine z_aload_n (pc2 := 38) rfl rfl rfl ?_
        refine z_getP (pc2 := 41) rfl rfl rfl rfl t1 ?_
        intro p8 p8e p8k
        obtain ⟨b9, rfl, hb9⟩ := zHere p8k
        have tb9 := zRm_t hC hb9
        refine z_getP (pc2 := 44) rfl rfl rfl rfl tb9.1 ?_
        intro p10 p10e p10k
        obtain ⟨x11, rfl, hx11⟩ := zFloorOf p10k
        have ix11 : x11 = 23 ∨ x11 = 30 ∨ x11 = 42 ∨ x11 = 49 := by omega
        have tx11 := zFl_t hC ix11
        refine z_getP (pc2 := 47) rfl rfl rfl rfl tx11.1 ?_
        intro p12 p12e p12k
        replace p12k : p12 = some (x11 + 2) := p12k; clear p12e; subst p12k
        refine z_iload_n (pc2 := 48) rfl rfl rfl ?_
        refine z_aald (pc2 := 49) rfl rfl tx11.2.2.1 rfl (by omega) (by omega) (by omega) ?_
        intro p13 p13e p13k
        rcases p13k with rfl | ⟨q14, rfl, q149, d15, n16, tq14, q14c, q14b⟩
        ·
          refine z_astore_n (lv2 := [(3, _), (0, _), (1, _), (2, _)]) (pc2 := 50) rfl rfl rfl rfl ?_
          refine z_aload_n (pc2 := 51) rfl rfl rfl ?_
          refine z_ifnonnull (t := 61) (pc2 := 54) rfl rfl rfl (fun a h => by cases h) (fun _ => ?_)
          refine z_aload_n (pc2 := 55) rfl rfl rfl ?_
          refine z_bipush (pc2 := 57) rfl rfl (by decide) ?_
          refine z_callV (y2 := 143) (as := [_]) (rest := []) (pc2 := 60) rfl rfl rfl rfl t1 rfl ?_
          refine z_inl ?_
          refine z_lv (lv2 := [(0, _), (1, _)]) ⟨rfl, rfl, trivial⟩ ?_
          refine z_aload_n (pc2 := 1) rfl rfl rfl ?_
          refine z_dup (pc2 := 2) rfl rfl rfl ?_
          refine z_getI (pc2 := 5) 0 rfl rfl rfl rfl rfl t1 ?_
          intro v17 e17 r17 k17
          clear k17
          clear e17
          refine z_iconst (pc2 := 6) rfl rfl ?_
          refine z_iadd (pc2 := 7) rfl rfl ?_
          refine z_putI_any (pc2 := 10) rfl rfl rfl rfl rfl rfl t1 (fun _ _ => True.intro) (fun u18 u18r => ?_)
          refine z_aload_n (pc2 := 11) rfl rfl rfl ?_
          refine z_iload_n (pc2 := 12) rfl rfl rfl ?_
          refine z_putI (pc2 := 15) rfl rfl rfl rfl rfl rfl t1 (by omega) True.intro ?_
          refine z_iload_n (pc2 := 16) rfl rfl rfl ?_
          refine z_iret rfl rfl ?_
          show zB _ _ _ _ _ _ [_] _ _
          refine z_iret rfl rfl ?_
          exact hK _ _ _ _ _ _ _ (zCP_q ⟨zTn_rf, (zQi_u (zQi_u zQi_rf (by unfold zIr; omega)) (by unfold zIr; omega)), zQp_rf⟩ (zTm_rf _)) (by omega)
        ·
          replace tq14 : _ = ((1, 9, [1, d15, n16]) : zT) := tq14
          refine zB_le tq14 trivial (fun q14l => ?_)
          refine z_astore_n (lv2 := [(3, _), (0, _), (1, _), (2, _)]) (pc2 := 50) rfl rfl rfl rfl ?_
          refine z_aload_n (pc2 := 51) rfl rfl rfl ?_
          refine z_ifnonnull (t := 61) (pc2 := 54) rfl rfl rfl (fun _ _ => ?_) (fun h => by cases h)
          refine z_aload_n (pc2 := 62) rfl rfl rfl ?_
          refine z_iload_n (pc2 := 63) rfl rfl rfl ?_
          refine z_callV (y2 := 88) (as := [_]) (rest := []) (pc2 := 66) rfl rfl rfl rfl tq14 rfl ?_
          refine z_inl ?_
          refine z_lv (lv2 := [(0, _), (1, _)]) ⟨rfl, rfl, trivial⟩ ?_
          refine z_iload_n (pc2 := 1) rfl rfl rfl ?_
          refine z_tsw (td := 61) rfl rfl (by omega) (fun c19 => ?_) (fun j c19j c19h => ?_)
          ·
            refine z_iconst (pc2 := 62) rfl rfl ?_
            refine z_zret rfl rfl (by omega) ?_
            show zB _ _ _ _ _ _ [_] _ _
            refine z_if_ne (t := 76) (pc2 := 69) rfl rfl rfl (by omega) (fun c20 => ?_) (fun c20 => by exfalso; omega)
            refine z_aload_n (pc2 := 77) rfl rfl rfl ?_
            refine z_getP (pc2 := 80) rfl rfl rfl rfl t1 ?_
            intro p21 p21e p21k
            replace p21k : p21 = some 3 := p21k; clear p21e; subst p21k
            refine z_callV (y2 := 102) (as := []) (rest := []) (pc2 := 83) rfl rfl rfl rfl t3 rfl ?_
            refine z_inl ?_
            refine z_lv (lv2 := [(0, _)]) ⟨rfl, trivial⟩ ?_
            refine z_aload_n (pc2 := 1) rfl rfl rfl ?_
            refine z_iconst (pc2 := 2) rfl rfl ?_
            refine z_putI (pc2 := 5) rfl rfl rfl rfl rfl rfl t3 (by omega) (by show (0 : Int) ≤ _ ∧ _ ≤ 1000000; omega) ?_
            refine z_ret rfl rfl ?_
            show zB _ _ _ _ _ _ [] _ _
            refine z_aload_n (pc2 := 84) rfl rfl rfl ?_
            refine z_aload_n (pc2 := 85) rfl rfl rfl ?_
            refine z_aload_n (pc2 := 86) rfl rfl rfl ?_
            refine z_iload_n (pc2 := 87) rfl rfl rfl ?_
            refine z_callV (y2 := 147) (as := [_, _]) (rest := [_]) (pc2 := 90) rfl rfl rfl rfl t1 rfl ?_
            refine z_inl ?_
            refine z_lv (lv2 := [(0, _), (1, _), (2, _)]) ⟨rfl, rfl, rfl, trivial⟩ ?_
            refine z_iload_n (pc2 := 1) rfl rfl rfl ?_
            refine z_tsw (td := 85) rfl rfl (by omega) (fun c22 => ?_) (fun j c22j c22h => ?_)
            ·
              refine z_aload_n (pc2 := 86) rfl rfl rfl ?_
              refine z_callV (y2 := 89) (as := []) (rest := []) (pc2 := 89) rfl rfl rfl rfl tq14 rfl ?_
              refine z_inl ?_
              refine z_lv (lv2 := [(0, _)]) ⟨rfl, trivial⟩ ?_
              refine z_aload_n (pc2 := 1) rfl rfl rfl ?_
              refine z_getI (pc2 := 4) 0 rfl rfl rfl rfl rfl tq14 ?_
              intro v23 e23 r23 k23
              replace k23 : d15 = v23 := Eq.symm k23; clear r23 e23; subst k23
              refine z_iconst (pc2 := 5) rfl rfl ?_
              refine z_icmp_ne (t := 22) (pc2 := 8) rfl rfl rfl (by omega) (by omega) (fun c24 => ?_) (fun c24 => ?_)
              ·
                refine z_aload_n (pc2 := 23) rfl rfl rfl ?_
                refine z_getI (pc2 := 26) 0 rfl rfl rfl rfl rfl tq14 ?_
                intro v25 e25 r25 k25
                replace k25 : (d15 = 0 → 0 ≤ v25 ∧ v25 < n16) ∧ (d15 = 1 → 0 ≤ v25 ∧ v25 ≤ 5) ∧ (d15 = 4 → 0 ≤ v25 ∧ v25 ≤ 3) := k25
                clear e25
                refine z_iret rfl rfl ?_
                show zB _ _ _ _ _ _ [_] _ _
                refine z_iret rfl rfl ?_
                show zB _ _ _ _ _ _ [_, _] _ _
                refine z_callV (y2 := 144) (as := [_]) (rest := []) (pc2 := 93) rfl rfl rfl rfl t1 rfl ?_
                refine z_inl ?_
                refine z_lv (lv2 := [(0, _), (1, _)]) ⟨rfl, rfl, trivial⟩ ?_
                refine z_aload_n (pc2 := 1) rfl rfl rfl ?_
                refine z_iconst (pc2 := 2) rfl rfl ?_
                refine z_putI (pc2 := 5) rfl rfl rfl rfl rfl rfl t1 (by omega) True.intro ?_
                refine z_iload_n (pc2 := 6) rfl rfl rfl ?_
                refine z_iret rfl rfl ?_
                show zB _ _ _ _ _ _ [_] _ _
                refine z_iret rfl rfl ?_
                exact hK _ _ _ _ _ _ _ (zCP_q ⟨zTn_rf, (zQi_u (zQi_u zQi_rf (by unfold zIr; omega)) (by unfold zIr; omega)), zQp_rf⟩ (zTm_rf _)) (by omega)
              ·
                refine z_aload_n (pc2 := 9) rfl rfl rfl ?_
                refine z_getP (pc2 := 12) rfl rfl rfl rfl tq14 ?_
                intro p26 p26e p26k
                obtain ⟨q27, rfl, q279, tq27, q27b⟩ := p26k
                replace tq27 : _ = ((1, 3, [n16]) : zT) := tq27
                refine zB_le tq27 trivial (fun q27l => ?_)
                refine z_aload_n (pc2 := 13) rfl rfl rfl ?_
                refine z_getI (pc2 := 16) 0 rfl rfl rfl rfl rfl tq14 ?_
                intro v28 e28 r28 k28
                replace k28 : (d15 = 0 → 0 ≤ v28 ∧ v28 < n16) ∧ (d15 = 1 → 0 ≤ v28 ∧ v28 ≤ 5) ∧ (d15 = 4 → 0 ≤ v28 ∧ v28 ≤ 3) := k28
                clear e28
                refine z_callV (y2 := 40) (as := [_]) (rest := []) (pc2 := 19) rfl rfl rfl rfl tq27 rfl ?_
                refine z_inl ?_
                refine z_lv (lv2 := [(0, _), (1, _)]) ⟨rfl, rfl, trivial⟩ ?_
                refine z_aload_n (pc2 := 1) rfl rfl rfl ?_
                refine z_getP (pc2 := 4) rfl rfl rfl rfl tq27 ?_
                intro p29 p29e p29k
                obtain ⟨q30, rfl, q309, tq30, -⟩ := p29k
                replace tq30 : _ = ((2, 0, [18, 26, n16]) : zT) := tq30
                refine zB_le tq30 trivial (fun q30l => ?_)
                refine z_iload_n (pc2 := 5) rfl rfl rfl ?_
                refine z_iconst (pc2 := 6) rfl rfl ?_
                refine z_imul (pc2 := 7) rfl rfl ?_
                refine z_iald (pc2 := 8) rfl rfl tq30 (by omega) (by omega) (by omega) ?_
                intro v31 e31 r31 k31
                replace k31 := ok_26 k31
                clear e31
                refine z_iret rfl rfl ?_
                show zB _ _ _ _ _ _ [_] _ _
                refine z_goto (pc2 := 26) rfl rfl ?_
                refine z_iret rfl rfl ?_
                show zB _ _ _ _ _ _ [_] _ _
                refine z_iret rfl rfl ?_
                show zB _ _ _ _ _ _ [_, _] _ _
                refine z_callV (y2 := 144) (as := [_]) (rest := []) (pc2 := 93) rfl rfl rfl rfl t1 rfl ?_
                refine z_inl ?_
                refine z_lv (lv2 := [(0, _), (1, _)]) ⟨rfl, rfl, trivial⟩ ?_
                refine z_aload_n (pc2 := 1) rfl rfl rfl ?_
                refine z_iconst (pc2 := 2) rfl rfl ?_
                refine z_putI (pc2 := 5) rfl rfl rfl rfl rfl rfl t1 (by omega) True.intro ?_
                refine z_iload_n (pc2 := 6) rfl rfl rfl ?_
                refine z_iret rfl rfl ?_
                show zB _ _ _ _ _ _ [_] _ _
                refine z_iret rfl rfl ?_
                exact hK _ _ _ _ _ _ _ (zCP_q ⟨zTn_rf, (zQi_u (zQi_u zQi_rf (by unfold zIr; omega)) (by unfold zIr; omega)), zQp_rf⟩ (zTm_rf _)) (by omega)
            ·
              have c22t : j = 0 ∨ j = 1 ∨ j = 2 ∨ j = 3 ∨ j = 4 ∨ j = 5 := by omega
              rcases c22t with rfl | rfl | rfl | rfl | rfl | rfl
              ·
                refine ⟨_, 40, rfl, rfl, ?_⟩
                refine z_aload_n (pc2 := 41) rfl rfl rfl ?_
                refine z_aload_n (pc2 := 42) rfl rfl rfl ?_
                refine z_getP (pc2 := 45) rfl rfl rfl rfl t1 ?_
                intro p32 p32e p32k
                replace p32k : p32 = some 3 := p32k; clear p32e; subst p32k
                refine z_callV (y2 := 92) (as := [_]) (rest := []) (pc2 := 48) rfl rfl rfl rfl tq14 rfl ?_
                refine c_Sort_wide hn hC (by omega) (by omega) tq14 (by omega) (by first | omega | (simp [zU] <;> omega)) (fun w33 I33 G33 h33 z33 => ?_)
                try simp [zU] at h33
                show zB _ _ _ _ _ _ [_] _ _
                refine z_iret rfl rfl ?_
                show zB _ _ _ _ _ _ [_, _] _ _
                refine z_callV (y2 := 144) (as := [_]) (rest := []) (pc2 := 93) rfl rfl rfl rfl t1 rfl ?_
                refine z_inl ?_
                refine z_lv (lv2 := [(0, _), (1, _)]) ⟨rfl, rfl, trivial⟩ ?_
                refine z_aload_n (pc2 := 1) rfl rfl rfl ?_
                refine z_iconst (pc2 := 2) rfl rfl ?_
                refine z_putI (pc2 := 5) rfl rfl rfl rfl rfl rfl t1 (by omega) True.intro ?_
                refine z_iload_n (pc2 := 6) rfl rfl rfl ?_
                refine z_iret rfl rfl ?_
                show zB _ _ _ _ _ _ [_] _ _
                refine z_iret rfl rfl ?_
                exact hK _ _ _ _ _ _ _ (zCP_q ⟨zTn_rf, (zQi_u (zQi_t (zQi_u zQi_rf (by unfold zIr; omega)) (zQi_tr z33)) (by unfold zIr; omega)), zQp_rf⟩ (zTm_rf _)) (by omega)
              ·
                refine ⟨_, 49, rfl, rfl, ?_⟩
                refine z_aload_n (pc2 := 50) rfl rfl rfl ?_
                refine z_aload_n (pc2 := 51) rfl rfl rfl ?_
                refine z_getP (pc2 := 54) rfl rfl rfl rfl t1 ?_
                intro p34 p34e p34k
                replace p34k : p34 = some 3 := p34k; clear p34e; subst p34k
                refine z_callV (y2 := 95) (as := [_]) (rest := []) (pc2 := 57) rfl rfl rfl rfl tq14 rfl ?_
                refine c_Sort_share hn hC (by omega) (by omega) tq14 (by omega) (by first | omega | (simp [zU] <;> omega)) (fun w35 I35 G35 h35 z35 => ?_)
                try simp [zU] at h35
                show zB _ _ _ _ _ _ [_] _ _
                refine z_iret rfl rfl ?_
                show zB _ _ _ _ _ _ [_, _] _ _
                refine z_callV (y2 := 144) (as := [_]) (rest := []) (pc2 := 93) rfl rfl rfl rfl t1 rfl ?_
                refine z_inl ?_
                refine z_lv (lv2 := [(0, _), (1, _)]) ⟨rfl, rfl, trivial⟩ ?_
                refine z_aload_n (pc2 := 1) rfl rfl rfl ?_
                refine z_iconst (pc2 := 2) rfl rfl ?_
                refine z_putI (pc2 := 5) rfl rfl rfl rfl rfl rfl t1 (by omega) True.intro ?_
                refine z_iload_n (pc2 := 6) rfl rfl rfl ?_
                refine z_iret rfl rfl ?_
                show zB _ _ _ _ _ _ [_] _ _
                refine z_iret rfl rfl ?_
                exact hK _ _ _ _ _ _ _ (zCP_q ⟨zTn_rf, (zQi_u (zQi_t (zQi_u zQi_rf (by unfold zIr; omega)) (zQi_tr z35)) (by unfold zIr; omega)), zQp_rf⟩ (zTm_rf _)) (by omega)
              ·
                refine ⟨_, 58, rfl, rfl, ?_⟩
                refine z_aload_n (pc2 := 59) rfl rfl rfl ?_
                refine z_aload_n (pc2 := 60) rfl rfl rfl ?_
                refine z_getP (pc2 := 63) rfl rfl rfl rfl t1 ?_
                intro p36 p36e p36k
                replace p36k : p36 = some 3 := p36k; clear p36e; subst p36k
                refine z_callV (y2 := 97) (as := [_]) (rest := []) (pc2 := 66) rfl rfl rfl rfl tq14 rfl ?_
                refine c_Sort_ink hn hC (by omega) (by omega) tq14 (by omega) (by first | omega | (simp [zU] <;> omega)) (fun w37 I37 G37 h37 z37 => ?_)
                try simp [zU] at h37
                show zB _ _ _ _ _ _ [_] _ _
                refine z_iret rfl rfl ?_
                show zB _ _ _ _ _ _ [_, _] _ _
                refine z_callV (y2 := 144) (as := [_]) (rest := []) (pc2 := 93) rfl rfl rfl rfl t1 rfl ?_
                refine z_inl ?_
                refine z_lv (lv2 := [(0, _), (1, _)]) ⟨rfl, rfl, trivial⟩ ?_
                refine z_aload_n (pc2 := 1) rfl rfl rfl ?_
                refine z_iconst (pc2 := 2) rfl rfl ?_
                refine z_putI (pc2 := 5) rfl rfl rfl rfl rfl rfl t1 (by omega) True.intro ?_
                refine z_iload_n (pc2 := 6) rfl rfl rfl ?_
                refine z_iret rfl rfl ?_
                show zB _ _ _ _ _ _ [_] _ _
                refine z_iret rfl rfl ?_
                exact hK _ _ _ _ _ _ _ (zCP_q ⟨zTn_rf, (zQi_u (zQi_t (zQi_u zQi_rf (by unfold zIr; omega)) (zQi_tr z37)) (by unfold zIr; omega)), zQp_rf⟩ (zTm_rf _)) (by omega)
              ·
                refine ⟨_, 67, rfl, rfl, ?_⟩
                refine z_aload_n (pc2 := 68) rfl rfl rfl ?_
                refine z_getI (pc2 := 71) 0 rfl rfl rfl rfl rfl tq14 ?_
                intro v38 e38 r38 k38
                replace k38 : (d15 = 0 → 0 ≤ v38 ∧ v38 < n16) ∧ (d15 = 1 → 0 ≤ v38 ∧ v38 ≤ 5) ∧ (d15 = 4 → 0 ≤ v38 ∧ v38 ≤ 3) := k38
                clear e38
                refine z_iret rfl rfl ?_
                show zB _ _ _ _ _ _ [_, _] _ _
                refine z_callV (y2 := 144) (as := [_]) (rest := []) (pc2 := 93) rfl rfl rfl rfl t1 rfl ?_
                refine z_inl ?_
                refine z_lv (lv2 := [(0, _), (1, _)]) ⟨rfl, rfl, trivial⟩ ?_
                refine z_aload_n (pc2 := 1) rfl rfl rfl ?_
                refine z_iconst (pc2 := 2) rfl rfl ?_
                refine z_putI (pc2 := 5) rfl rfl rfl rfl rfl rfl t1 (by omega) True.intro ?_
                refine z_iload_n (pc2 := 6) rfl rfl rfl ?_
                refine z_iret rfl rfl ?_
                show zB _ _ _ _ _ _ [_] _ _
                refine z_iret rfl rfl ?_
                exact hK _ _ _ _ _ _ _ (zCP_q ⟨zTn_rf, (zQi_u (zQi_u zQi_rf (by unfold zIr; omega)) (by unfold zIr; omega)), zQp_rf⟩ (zTm_rf _)) (by omega)
              ·
                refine ⟨_, 72, rfl, rfl, ?_⟩
                refine z_aload_n (pc2 := 73) rfl rfl rfl ?_
                refine z_getI (pc2 := 76) 0 rfl rfl rfl rfl rfl tq14 ?_
                intro v39 e39 r39 k39
                replace k39 : d15 = v39 := Eq.symm k39; clear r39 e39; subst k39
                refine z_iret rfl rfl ?_
                show zB _ _ _ _ _ _ [_, _] _ _
                refine z_callV (y2 := 144) (as := [_]) (rest := []) (pc2 := 93) rfl rfl rfl rfl t1 rfl ?_
                refine z_inl ?_
                refine z_lv (lv2 := [(0, _), (1, _)]) ⟨rfl, rfl, trivial⟩ ?_
                refine z_aload_n (pc2 := 1) rfl rfl rfl ?_
                refine z_iconst (pc2 := 2) rfl rfl ?_
                refine z_putI (pc2 := 5) rfl rfl rfl rfl rfl rfl t1 (by omega) True.intro ?_
                refine z_iload_n (pc2 := 6) rfl rfl rfl ?_
                refine z_iret rfl rfl ?_
                show zB _ _ _ _ _ _ [_] _ _
                refine z_iret rfl rfl ?_
                exact hK _ _ _ _ _ _ _ (zCP_q ⟨zTn_rf, (zQi_u (zQi_u zQi_rf (by unfold zIr; omega)) (by unfold zIr; omega)), zQp_rf⟩ (zTm_rf _)) (by omega)
              ·
                refine ⟨_, 77, rfl, rfl, ?_⟩
                refine z_aload_n (pc2 := 78) rfl rfl rfl ?_
                refine z_getP (pc2 := 81) rfl rfl rfl rfl tq14 ?_
                intro p40 p40e p40k
                obtain ⟨q41, rfl, q419, tq41, q41b⟩ := p40k
                replace tq41 : _ = ((1, 3, [n16]) : zT) := tq41
                refine zB_le tq41 trivial (fun q41l => ?_)
                refine z_getI (pc2 := 84) 0 rfl rfl rfl rfl rfl tq41 ?_
                intro v42 e42 r42 k42
                replace k42 : (0 : Int) ≤ v42 ∧ v42 ≤ 3 := k42
                clear e42
                refine z_iret rfl rfl ?_
                show zB _ _ _ _ _ _ [_, _] _ _
                refine z_callV (y2 := 144) (as := [_]) (rest := []) (pc2 := 93) rfl rfl rfl rfl t1 rfl ?_
                refine z_inl ?_
                refine z_lv (lv2 := [(0, _), (1, _)]) ⟨rfl, rfl, trivial⟩ ?_
                refine z_aload_n (pc2 := 1) rfl rfl rfl ?_
                refine z_iconst (pc2 := 2) rfl rfl ?_
                refine z_putI (pc2 := 5) rfl rfl rfl rfl rfl rfl t1 (by omega) True.intro ?_
                refine z_iload_n (pc2 := 6) rfl rfl rfl ?_
                refine z_iret rfl rfl ?_
                show zB _ _ _ _ _ _ [_] _ _
                refine z_iret rfl rfl ?_
                exact hK _ _ _ _ _ _ _ (zCP_q ⟨zTn_rf, (zQi_u (zQi_u zQi_rf (by unfold zIr; omega)) (by unfold zIr; omega)), zQp_rf⟩ (zTm_rf _)) (by omega)
          ·
            have c19t : j = 0 ∨ j = 1 ∨ j = 2 := by omega
            rcases c19t with rfl | rfl | rfl
            ·
              refine ⟨_, 28, rfl, rfl, ?_⟩
              refine z_aload_n (pc2 := 29) rfl rfl rfl ?_
              refine z_callV (y2 := 86) (as := []) (rest := []) (pc2 := 32) rfl rfl rfl rfl tq14 rfl ?_
              refine z_inl ?_
              refine z_lv (lv2 := [(0, _)]) ⟨rfl, trivial⟩ ?_
              refine z_aload_n (pc2 := 1) rfl rfl rfl ?_
              refine z_getI (pc2 := 4) 0 rfl rfl rfl rfl rfl tq14 ?_
              intro v43 e43 r43 k43
              replace k43 : d15 = v43 := Eq.symm k43; clear r43 e43; subst k43
              refine z_iconst (pc2 := 5) rfl rfl ?_
              refine z_icmp_eq (t := 16) (pc2 := 8) rfl rfl rfl (by omega) (by omega) (fun c44 => ?_) (fun c44 => ?_)
              ·
                refine z_iconst (pc2 := 17) rfl rfl ?_
                refine z_goto (pc2 := 21) rfl rfl ?_
                refine z_zret rfl rfl (by omega) ?_
                show zB _ _ _ _ _ _ [_] _ _
                refine z_zret rfl rfl (by omega) ?_
                show zB _ _ _ _ _ _ [_] _ _
                refine z_if_ne (t := 76) (pc2 := 69) rfl rfl rfl (by omega) (fun c45 => ?_) (fun c45 => by exfalso; omega)
                refine z_aload_n (pc2 := 77) rfl rfl rfl ?_
                refine z_getP (pc2 := 80) rfl rfl rfl rfl t1 ?_
                intro p46 p46e p46k
                replace p46k : p46 = some 3 := p46k; clear p46e; subst p46k
                refine z_callV (y2 := 102) (as := []) (rest := []) (pc2 := 83) rfl rfl rfl rfl t3 rfl ?_
                refine z_inl ?_
                refine z_lv (lv2 := [(0, _)]) ⟨rfl, trivial⟩ ?_
                refine z_aload_n (pc2 := 1) rfl rfl rfl ?_
                refine z_iconst (pc2 := 2) rfl rfl ?_
                refine z_putI (pc2 := 5) rfl rfl rfl rfl rfl rfl t3 (by omega) (by show (0 : Int) ≤ _ ∧ _ ≤ 1000000; omega) ?_
                refine z_ret rfl rfl ?_
                show zB _ _ _ _ _ _ [] _ _
                refine z_aload_n (pc2 := 84) rfl rfl rfl ?_
                refine z_aload_n (pc2 := 85) rfl rfl rfl ?_
                refine z_aload_n (pc2 := 86) rfl rfl rfl ?_
                refine z_iload_n (pc2 := 87) rfl rfl rfl ?_
                refine z_callV (y2 := 147) (as := [_, _]) (rest := [_]) (pc2 := 90) rfl rfl rfl rfl t1 rfl ?_
                refine z_inl ?_
                refine z_lv (lv2 := [(0, _), (1, _), (2, _)]) ⟨rfl, rfl, rfl, trivial⟩ ?_
                refine z_iload_n (pc2 := 1) rfl rfl rfl ?_
                refine z_tsw (td := 85) rfl rfl (by omega) (fun c47 => ?_) (fun j c47j c47h => ?_)
                ·
                  exfalso; omega
                ·
                  have c47t : j = 0 ∨ j = 1 ∨ j = 2 ∨ j = 3 ∨ j = 4 ∨ j = 5 := by omega
                  rcases c47t with rfl | rfl | rfl | rfl | rfl | rfl
                  ·
                    refine ⟨_, 40, rfl, rfl, ?_⟩
                    exfalso; omega
                  ·
                    refine ⟨_, 49, rfl, rfl, ?_⟩
                    refine z_aload_n (pc2 := 50) rfl rfl rfl ?_
                    refine z_aload_n (pc2 := 51) rfl rfl rfl ?_
                    refine z_getP (pc2 := 54) rfl rfl rfl rfl t1 ?_
                    intro p48 p48e p48k
                    replace p48k : p48 = some 3 := p48k; clear p48e; subst p48k
                    refine z_callV (y2 := 95) (as := [_]) (rest := []) (pc2 := 57) rfl rfl rfl rfl tq14 rfl ?_
                    refine c_Sort_share hn hC (by omega) (by omega) tq14 (by omega) (by first | omega | (simp [zU] <;> omega)) (fun w49 I49 G49 h49 z49 => ?_)
                    try simp [zU] at h49
                    show zB _ _ _ _ _ _ [_] _ _
                    refine z_iret rfl rfl ?_
                    show zB _ _ _ _ _ _ [_, _] _ _
                    refine z_callV (y2 := 144) (as := [_]) (rest := []) (pc2 := 93) rfl rfl rfl rfl t1 rfl ?_
                    refine z_inl ?_
                    refine z_lv (lv2 := [(0, _), (1, _)]) ⟨rfl, rfl, trivial⟩ ?_
                    refine z_aload_n (pc2 := 1) rfl rfl rfl ?_
                    refine z_iconst (pc2 := 2) rfl rfl ?_
                    refine z_putI (pc2 := 5) rfl rfl rfl rfl rfl rfl t1 (by omega) True.intro ?_
                    refine z_iload_n (pc2 := 6) rfl rfl rfl ?_
                    refine z_iret rfl rfl ?_
                    show zB _ _ _ _ _ _ [_] _ _
                    refine z_iret rfl rfl ?_
                    exact hK _ _ _ _ _ _ _ (zCP_q ⟨zTn_rf, (zQi_u (zQi_t (zQi_u zQi_rf (by unfold zIr; omega)) (zQi_tr z49)) (by unfold zIr; omega)), zQp_rf⟩ (zTm_rf _)) (by omega)
                  ·
                    refine ⟨_, 58, rfl, rfl, ?_⟩
                    exfalso; omega
                  ·
                    refine ⟨_, 67, rfl, rfl, ?_⟩
                    exfalso; omega
                  ·
                    refine ⟨_, 72, rfl, rfl, ?_⟩
                    exfalso; omega
                  ·
                    refine ⟨_, 77, rfl, rfl, ?_⟩
                    exfalso; omega
              ·
                refine z_aload_n (pc2 := 9) rfl rfl rfl ?_
                refine z_getI (pc2 := 12) 0 rfl rfl rfl rfl rfl tq14 ?_
                intro v50 e50 r50 k50
                replace k50 : d15 = v50 := Eq.symm k50; clear r50 e50; subst k50
                refine z_iconst (pc2 := 13) rfl rfl ?_
                refine z_icmp_ne (t := 20) (pc2 := 16) rfl rfl rfl (by omega) (by omega) (fun c51 => ?_) (fun c51 => ?_)
                ·
                  refine z_iconst (pc2 := 21) rfl rfl ?_
                  refine z_zret rfl rfl (by omega) ?_
                  show zB _ _ _ _ _ _ [_] _ _
                  refine z_zret rfl rfl (by omega) ?_
                  show zB _ _ _ _ _ _ [_] _ _
                  refine z_if_ne (t := 76) (pc2 := 69) rfl rfl rfl (by omega) (fun c52 => by exfalso; omega) (fun c52 => ?_)
                  refine z_aload_n (pc2 := 70) rfl rfl rfl ?_
                  refine z_bipush (pc2 := 72) rfl rfl (by decide) ?_
                  refine z_callV (y2 := 143) (as := [_]) (rest := []) (pc2 := 75) rfl rfl rfl rfl t1 rfl ?_
                  refine z_inl ?_
                  refine z_lv (lv2 := [(0, _), (1, _)]) ⟨rfl, rfl, trivial⟩ ?_
                  refine z_aload_n (pc2 := 1) rfl rfl rfl ?_
                  refine z_dup (pc2 := 2) rfl rfl rfl ?_
                  refine z_getI (pc2 := 5) 0 rfl rfl rfl rfl rfl t1 ?_
                  intro v53 e53 r53 k53
                  clear k53
                  clear e53
                  refine z_iconst (pc2 := 6) rfl rfl ?_
                  refine z_iadd (pc2 := 7) rfl rfl ?_
                  refine z_putI_any (pc2 := 10) rfl rfl rfl rfl rfl rfl t1 (fun _ _ => True.intro) (fun u54 u54r => ?_)
                  refine z_aload_n (pc2 := 11) rfl rfl rfl ?_
                  refine z_iload_n (pc2 := 12) rfl rfl rfl ?_
                  refine z_putI (pc2 := 15) rfl rfl rfl rfl rfl rfl t1 (by omega) True.intro ?_
                  refine z_iload_n (pc2 := 16) rfl rfl rfl ?_
                  refine z_iret rfl rfl ?_
                  show zB _ _ _ _ _ _ [_] _ _
                  refine z_iret rfl rfl ?_
                  exact hK _ _ _ _ _ _ _ (zCP_q ⟨zTn_rf, (zQi_u (zQi_u zQi_rf (by unfold zIr; omega)) (by unfold zIr; omega)), zQp_rf⟩ (zTm_rf _)) (by omega)
                ·
                  refine z_iconst (pc2 := 17) rfl rfl ?_
                  refine z_goto (pc2 := 21) rfl rfl ?_
                  refine z_zret rfl rfl (by omega) ?_
                  show zB _ _ _ _ _ _ [_] _ _
                  refine z_zret rfl rfl (by omega) ?_
                  show zB _ _ _ _ _ _ [_] _ _
                  refine z_if_ne (t := 76) (pc2 := 69) rfl rfl rfl (by omega) (fun c55 => ?_) (fun c55 => by exfalso; omega)
                  refine z_aload_n (pc2 := 77) rfl rfl rfl ?_
                  refine z_getP (pc2 := 80) rfl rfl rfl rfl t1 ?_
                  intro p56 p56e p56k
                  replace p56k : p56 = some 3 := p56k; clear p56e; subst p56k
                  refine z_callV (y2 := 102) (as := []) (rest := []) (pc2 := 83) rfl rfl rfl rfl t3 rfl ?_
                  refine z_inl ?_
                  refine z_lv (lv2 := [(0, _)]) ⟨rfl, trivial⟩ ?_
                  refine z_aload_n (pc2 := 1) rfl rfl rfl ?_
                  refine z_iconst (pc2 := 2) rfl rfl ?_
                  refine z_putI (pc2 := 5) rfl rfl rfl rfl rfl rfl t3 (by omega) (by show (0 : Int) ≤ _ ∧ _ ≤ 1000000; omega) ?_
                  refine z_ret rfl rfl ?_
                  show zB _ _ _ _ _ _ [] _ _
                  refine z_aload_n (pc2 := 84) rfl rfl rfl ?_
                  refine z_aload_n (pc2 := 85) rfl rfl rfl ?_
                  refine z_aload_n (pc2 := 86) rfl rfl rfl ?_
                  refine z_iload_n (pc2 := 87) rfl rfl rfl ?_
                  refine z_callV (y2 := 147) (as := [_, _]) (rest := [_]) (pc2 := 90) rfl rfl rfl rfl t1 rfl ?_
                  refine z_inl ?_
                  refine z_lv (lv2 := [(0, _), (1, _), (2, _)]) ⟨rfl, rfl, rfl, trivial⟩ ?_
                  refine z_iload_n (pc2 := 1) rfl rfl rfl ?_
                  refine z_tsw (td := 85) rfl rfl (by omega) (fun c57 => ?_) (fun j c57j c57h => ?_)
                  ·
                    exfalso; omega
                  ·
                    have c57t : j = 0 ∨ j = 1 ∨ j = 2 ∨ j = 3 ∨ j = 4 ∨ j = 5 := by omega
                    rcases c57t with rfl | rfl | rfl | rfl | rfl | rfl
                    ·
                      refine ⟨_, 40, rfl, rfl, ?_⟩
                      exfalso; omega
                    ·
                      refine ⟨_, 49, rfl, rfl, ?_⟩
                      refine z_aload_n (pc2 := 50) rfl rfl rfl ?_
                      refine z_aload_n (pc2 := 51) rfl rfl rfl ?_
                      refine z_getP (pc2 := 54) rfl rfl rfl rfl t1 ?_
                      intro p58 p58e p58k
                      replace p58k : p58 = some 3 := p58k; clear p58e; subst p58k
                      refine z_callV (y2 := 95) (as := [_]) (rest := []) (pc2 := 57) rfl rfl rfl rfl tq14 rfl ?_
                      refine c_Sort_share hn hC (by omega) (by omega) tq14 (by omega) (by first | omega | (simp [zU] <;> omega)) (fun w59 I59 G59 h59 z59 => ?_)
                      try simp [zU] at h59
                      show zB _ _ _ _ _ _ [_] _ _
                      refine z_iret rfl rfl ?_
                      show zB _ _ _ _ _ _ [_, _] _ _
                      refine z_callV (y2 := 144) (as := [_]) (rest := []) (pc2 := 93) rfl rfl rfl rfl t1 rfl ?_
                      refine z_inl ?_
                      refine z_lv (lv2 := [(0, _), (1, _)]) ⟨rfl, rfl, trivial⟩ ?_
                      refine z_aload_n (pc2 := 1) rfl rfl rfl ?_
                      refine z_iconst (pc2 := 2) rfl rfl ?_
                      refine z_putI (pc2 := 5) rfl rfl rfl rfl rfl rfl t1 (by omega) True.intro ?_
                      refine z_iload_n (pc2 := 6) rfl rfl rfl ?_
                      refine z_iret rfl rfl ?_
                      show zB _ _ _ _ _ _ [_] _ _
                      refine z_iret rfl rfl ?_
                      exact hK _ _ _ _ _ _ _ (zCP_q ⟨zTn_rf, (zQi_u (zQi_t (zQi_u zQi_rf (by unfold zIr; omega)) (zQi_tr z59)) (by unfold zIr; omega)), zQp_rf⟩ (zTm_rf _)) (by omega)
                    ·
                      refine ⟨_, 58, rfl, rfl, ?_⟩
                      exfalso; omega
                    ·
                      refine ⟨_, 67, rfl, rfl, ?_⟩
                      exfalso; omega
                    ·
                      refine ⟨_, 72, rfl, rfl, ?_⟩
                      exfalso; omega
                    ·
                      refine ⟨_, 77, rfl, rfl, ?_⟩
                      exfalso; omega
            ·
              refine ⟨_, 33, rfl, rfl, ?_⟩
              refine z_aload_n (pc2 := 34) rfl rfl rfl ?_
              refine z_getI (pc2 := 37) 0 rfl rfl rfl rfl rfl tq14 ?_
              intro v60 e60 r60 k60
              replace k60 : d15 = v60 := Eq.symm k60; clear r60 e60; subst k60
              refine z_iconst (pc2 := 38) rfl rfl ?_
              refine z_icmp_eq (t := 45) (pc2 := 41) rfl rfl rfl (by omega) (by omega) (fun c61 => ?_) (fun c61 => ?_)
              ·
                refine z_iconst (pc2 := 46) rfl rfl ?_
                refine z_zret rfl rfl (by omega) ?_
                show zB _ _ _ _ _ _ [_] _ _
                refine z_if_ne (t := 76) (pc2 := 69) rfl rfl rfl (by omega) (fun c62 => by exfalso; omega) (fun c62 => ?_)
                refine z_aload_n (pc2 := 70) rfl rfl rfl ?_
                refine z_bipush (pc2 := 72) rfl rfl (by decide) ?_
                refine z_callV (y2 := 143) (as := [_]) (rest := []) (pc2 := 75) rfl rfl rfl rfl t1 rfl ?_
                refine z_inl ?_
                refine z_lv (lv2 := [(0, _), (1, _)]) ⟨rfl, rfl, trivial⟩ ?_
                refine z_aload_n (pc2 := 1) rfl rfl rfl ?_
                refine z_dup (pc2 := 2) rfl rfl rfl ?_
                refine z_getI (pc2 := 5) 0 rfl rfl rfl rfl rfl t1 ?_
                intro v63 e63 r63 k63
                clear k63
                clear e63
                refine z_iconst (pc2 := 6) rfl rfl ?_
                refine z_iadd (pc2 := 7) rfl rfl ?_
                refine z_putI_any (pc2 := 10) rfl rfl rfl rfl rfl rfl t1 (fun _ _ => True.intro) (fun u64 u64r => ?_)
                refine z_aload_n (pc2 := 11) rfl rfl rfl ?_
                refine z_iload_n (pc2 := 12) rfl rfl rfl ?_
                refine z_putI (pc2 := 15) rfl rfl rfl rfl rfl rfl t1 (by omega) True.intro ?_
                refine z_iload_n (pc2 := 16) rfl rfl rfl ?_
                refine z_iret rfl rfl ?_
                show zB _ _ _ _ _ _ [_] _ _
                refine z_iret rfl rfl ?_
                exact hK _ _ _ _ _ _ _ (zCP_q ⟨zTn_rf, (zQi_u (zQi_u zQi_rf (by unfold zIr; omega)) (by unfold zIr; omega)), zQp_rf⟩ (zTm_rf _)) (by omega)
              ·
                refine z_iconst (pc2 := 42) rfl rfl ?_
                refine z_goto (pc2 := 46) rfl rfl ?_
                refine z_zret rfl rfl (by omega) ?_
                show zB _ _ _ _ _ _ [_] _ _
                refine z_if_ne (t := 76) (pc2 := 69) rfl rfl rfl (by omega) (fun c65 => ?_) (fun c65 => by exfalso; omega)
                refine z_aload_n (pc2 := 77) rfl rfl rfl ?_
                refine z_getP (pc2 := 80) rfl rfl rfl rfl t1 ?_
                intro p66 p66e p66k
                replace p66k : p66 = some 3 := p66k; clear p66e; subst p66k
                refine z_callV (y2 := 102) (as := []) (rest := []) (pc2 := 83) rfl rfl rfl rfl t3 rfl ?_
                refine z_inl ?_
                refine z_lv (lv2 := [(0, _)]) ⟨rfl, trivial⟩ ?_
                refine z_aload_n (pc2 := 1) rfl rfl rfl ?_
                refine z_iconst (pc2 := 2) rfl rfl ?_
                refine z_putI (pc2 := 5) rfl rfl rfl rfl rfl rfl t3 (by omega) (by show (0 : Int) ≤ _ ∧ _ ≤ 1000000; omega) ?_
                refine z_ret rfl rfl ?_
                show zB _ _ _ _ _ _ [] _ _
                refine z_aload_n (pc2 := 84) rfl rfl rfl ?_
                refine z_aload_n (pc2 := 85) rfl rfl rfl ?_
                refine z_aload_n (pc2 := 86) rfl rfl rfl ?_
                refine z_iload_n (pc2 := 87) rfl rfl rfl ?_
                refine z_callV (y2 := 147) (as := [_, _]) (rest := [_]) (pc2 := 90) rfl rfl rfl rfl t1 rfl ?_
                refine z_inl ?_
                refine z_lv (lv2 := [(0, _), (1, _), (2, _)]) ⟨rfl, rfl, rfl, trivial⟩ ?_
                refine z_iload_n (pc2 := 1) rfl rfl rfl ?_
                refine z_tsw (td := 85) rfl rfl (by omega) (fun c67 => ?_) (fun j c67j c67h => ?_)
                ·
                  exfalso; omega
                ·
                  have c67t : j = 0 ∨ j = 1 ∨ j = 2 ∨ j = 3 ∨ j = 4 ∨ j = 5 := by omega
                  rcases c67t with rfl | rfl | rfl | rfl | rfl | rfl
                  ·
                    refine ⟨_, 40, rfl, rfl, ?_⟩
                    exfalso; omega
                  ·
                    refine ⟨_, 49, rfl, rfl, ?_⟩
                    exfalso; omega
                  ·
                    refine ⟨_, 58, rfl, rfl, ?_⟩
                    refine z_aload_n (pc2 := 59) rfl rfl rfl ?_
                    refine z_aload_n (pc2 := 60) rfl rfl rfl ?_
                    refine z_getP (pc2 := 63) rfl rfl rfl rfl t1 ?_
                    intro p68 p68e p68k
                    replace p68k : p68 = some 3 := p68k; clear p68e; subst p68k
                    refine z_callV (y2 := 97) (as := [_]) (rest := []) (pc2 := 66) rfl rfl rfl rfl tq14 rfl ?_
                    refine c_Sort_ink hn hC (by omega) (by omega) tq14 (by omega) (by first | omega | (simp [zU] <;> omega)) (fun w69 I69 G69 h69 z69 => ?_)
                    try simp [zU] at h69
                    show zB _ _ _ _ _ _ [_] _ _
                    refine z_iret rfl rfl ?_
                    show zB _ _ _ _ _ _ [_, _] _ _
                    refine z_callV (y2 := 144) (as := [_]) (rest := []) (pc2 := 93) rfl rfl rfl rfl t1 rfl ?_
                    refine z_inl ?_
                    refine z_lv (lv2 := [(0, _), (1, _)]) ⟨rfl, rfl, trivial⟩ ?_
                    refine z_aload_n (pc2 := 1) rfl rfl rfl ?_
                    refine z_iconst (pc2 := 2) rfl rfl ?_
                    refine z_putI (pc2 := 5) rfl rfl rfl rfl rfl rfl t1 (by omega) True.intro ?_
                    refine z_iload_n (pc2 := 6) rfl rfl rfl ?_
                    refine z_iret rfl rfl ?_
                    show zB _ _ _ _ _ _ [_] _ _
                    refine z_iret rfl rfl ?_
                    exact hK _ _ _ _ _ _ _ (zCP_q ⟨zTn_rf, (zQi_u (zQi_t (zQi_u zQi_rf (by unfold zIr; omega)) (zQi_tr z69)) (by unfold zIr; omega)), zQp_rf⟩ (zTm_rf _)) (by omega)
                  ·
                    refine ⟨_, 67, rfl, rfl, ?_⟩
                    exfalso; omega
                  ·
                    refine ⟨_, 72, rfl, rfl, ?_⟩
                    exfalso; omega
                  ·
                    refine ⟨_, 77, rfl, rfl, ?_⟩
                    exfalso; omega
            ·
              refine ⟨_, 47, rfl, rfl, ?_⟩
              refine z_aload_n (pc2 := 48) rfl rfl rfl ?_
              refine z_getI (pc2 := 51) 0 rfl rfl rfl rfl rfl tq14 ?_
              intro v70 e70 r70 k70
              replace k70 : d15 = v70 := Eq.symm k70; clear r70 e70; subst k70
              refine z_iconst (pc2 := 52) rfl rfl ?_
              refine z_icmp_ne (t := 59) (pc2 := 55) rfl rfl rfl (by omega) (by omega) (fun c71 => ?_) (fun c71 => ?_)
              ·
                refine z_iconst (pc2 := 60) rfl rfl ?_
                refine z_zret rfl rfl (by omega) ?_
                show zB _ _ _ _ _ _ [_] _ _
                refine z_if_ne (t := 76) (pc2 := 69) rfl rfl rfl (by omega) (fun c72 => by exfalso; omega) (fun c72 => ?_)
                refine z_aload_n (pc2 := 70) rfl rfl rfl ?_
                refine z_bipush (pc2 := 72) rfl rfl (by decide) ?_
                refine z_callV (y2 := 143) (as := [_]) (rest := []) (pc2 := 75) rfl rfl rfl rfl t1 rfl ?_
                refine z_inl ?_
                refine z_lv (lv2 := [(0, _), (1, _)]) ⟨rfl, rfl, trivial⟩ ?_
                refine z_aload_n (pc2 := 1) rfl rfl rfl ?_
                refine z_dup (pc2 := 2) rfl rfl rfl ?_
                refine z_getI (pc2 := 5) 0 rfl rfl rfl rfl rfl t1 ?_
                intro v73 e73 r73 k73
                clear k73
                clear e73
                refine z_iconst (pc2 := 6) rfl rfl ?_
                refine z_iadd (pc2 := 7) rfl rfl ?_
                refine z_putI_any (pc2 := 10) rfl rfl rfl rfl rfl rfl t1 (fun _ _ => True.intro) (fun u74 u74r => ?_)
                refine z_aload_n (pc2 := 11) rfl rfl rfl ?_
                refine z_iload_n (pc2 := 12) rfl rfl rfl ?_
                refine z_putI (pc2 := 15) rfl rfl rfl rfl rfl rfl t1 (by omega) True.intro ?_
                refine z_iload_n (pc2 := 16) rfl rfl rfl ?_
                refine z_iret rfl rfl ?_
                show zB _ _ _ _ _ _ [_] _ _
                refine z_iret rfl rfl ?_
                exact hK _ _ _ _ _ _ _ (zCP_q ⟨zTn_rf, (zQi_u (zQi_u zQi_rf (by unfold zIr; omega)) (by unfold zIr; omega)), zQp_rf⟩ (zTm_rf _)) (by omega)
              ·
                refine z_iconst (pc2 := 56) rfl rfl ?_
                refine z_goto (pc2 := 60) rfl rfl ?_
                refine z_zret rfl rfl (by omega) ?_
                show zB _ _ _ _ _ _ [_] _ _
                refine z_if_ne (t := 76) (pc2 := 69) rfl rfl rfl (by omega) (fun c75 => ?_) (fun c75 => by exfalso; omega)
                refine z_aload_n (pc2 := 77) rfl rfl rfl ?_
                refine z_getP (pc2 := 80) rfl rfl rfl rfl t1 ?_
                intro p76 p76e p76k
                replace p76k : p76 = some 3 := p76k; clear p76e; subst p76k
                refine z_callV (y2 := 102) (as := []) (rest := []) (pc2 := 83) rfl rfl rfl rfl t3 rfl ?_
                refine z_inl ?_
                refine z_lv (lv2 := [(0, _)]) ⟨rfl, trivial⟩ ?_
                refine z_aload_n (pc2 := 1) rfl rfl rfl ?_
                refine z_iconst (pc2 := 2) rfl rfl ?_
                refine z_putI (pc2 := 5) rfl rfl rfl rfl rfl rfl t3 (by omega) (by show (0 : Int) ≤ _ ∧ _ ≤ 1000000; omega) ?_
                refine z_ret rfl rfl ?_
                show zB _ _ _ _ _ _ [] _ _
                refine z_aload_n (pc2 := 84) rfl rfl rfl ?_
                refine z_aload_n (pc2 := 85) rfl rfl rfl ?_
                refine z_aload_n (pc2 := 86) rfl rfl rfl ?_
                refine z_iload_n (pc2 := 87) rfl rfl rfl ?_
                refine z_callV (y2 := 147) (as := [_, _]) (rest := [_]) (pc2 := 90) rfl rfl rfl rfl t1 rfl ?_
                refine z_inl ?_
                refine z_lv (lv2 := [(0, _), (1, _), (2, _)]) ⟨rfl, rfl, rfl, trivial⟩ ?_
                refine z_iload_n (pc2 := 1) rfl rfl rfl ?_
                refine z_tsw (td := 85) rfl rfl (by omega) (fun c77 => ?_) (fun j c77j c77h => ?_)
                ·
                  exfalso; omega
                ·
                  have c77t : j = 0 ∨ j = 1 ∨ j = 2 ∨ j = 3 ∨ j = 4 ∨ j = 5 := by omega
                  rcases c77t with rfl | rfl | rfl | rfl | rfl | rfl
                  ·
                    refine ⟨_, 40, rfl, rfl, ?_⟩
                    exfalso; omega
                  ·
                    refine ⟨_, 49, rfl, rfl, ?_⟩
                    exfalso; omega
                  ·
                    refine ⟨_, 58, rfl, rfl, ?_⟩
                    exfalso; omega
                  ·
                    refine ⟨_, 67, rfl, rfl, ?_⟩
                    refine z_aload_n (pc2 := 68) rfl rfl rfl ?_
                    refine z_getI (pc2 := 71) 0 rfl rfl rfl rfl rfl tq14 ?_
                    intro v78 e78 r78 k78
                    replace k78 : (d15 = 0 → 0 ≤ v78 ∧ v78 < n16) ∧ (d15 = 1 → 0 ≤ v78 ∧ v78 ≤ 5) ∧ (d15 = 4 → 0 ≤ v78 ∧ v78 ≤ 3) := k78
                    clear e78
                    refine z_iret rfl rfl ?_
                    show zB _ _ _ _ _ _ [_, _] _ _
                    refine z_callV (y2 := 144) (as := [_]) (rest := []) (pc2 := 93) rfl rfl rfl rfl t1 rfl ?_
                    refine z_inl ?_
                    refine z_lv (lv2 := [(0, _), (1, _)]) ⟨rfl, rfl, trivial⟩ ?_
                    refine z_aload_n (pc2 := 1) rfl rfl rfl ?_
                    refine z_iconst (pc2 := 2) rfl rfl ?_
                    refine z_putI (pc2 := 5) rfl rfl rfl rfl rfl rfl t1 (by omega) True.intro ?_
                    refine z_iload_n (pc2 := 6) rfl rfl rfl ?_
                    refine z_iret rfl rfl ?_
                    show zB _ _ _ _ _ _ [_] _ _
                    refine z_iret rfl rfl ?_
                    exact hK _ _ _ _ _ _ _ (zCP_q ⟨zTn_rf, (zQi_u (zQi_u zQi_rf (by unfold zIr; omega)) (by unfold zIr; omega)), zQp_rf⟩ (zTm_rf _)) (by omega)
                  ·
                    refine ⟨_, 72, rfl, rfl, ?_⟩
                    exfalso; omega
                  ·
                    refine ⟨_, 77, rfl, rfl, ?_⟩
                    exfalso; omega
      ·
        refine z_iconst (pc2 := 11) rfl rfl ?_
        refine z_goto (pc2 := 15) rfl rfl ?_
        refine z_zret rfl rfl (by omega) ?_
        show zB _ _ _ _ _ _ [_] _ _
        refine z_if_eq (t := 37) (pc2 := 30) rfl rfl rfl (by omega) (fun c79 => by exfalso; omega) (fun c79 => ?_)
        refine z_aload_n (pc2 := 31) rfl rfl rfl ?_
        refine z_bipush (pc2 := 33) rfl rfl (by decide) ?_
        refine z_callV (y2 := 142) (as := [_]) (rest := []) (pc2 := 36) rfl rfl rfl rfl t1 rfl ?_
        refine z_inl ?_
        refine z_lv (lv2 := [(0, _), (1, _)]) ⟨rfl, rfl, trivial⟩ ?_
        refine z_aload_n (pc2 := 1) rfl rfl rfl ?_
        refine z_iload_n (pc2 := 2) rfl rfl rfl ?_
        refine z_putI (pc2 := 5) rfl rfl rfl rfl rfl rfl t1 (by omega) True.intro ?_
        refine z_iload_n (pc2 := 6) rfl rfl rfl ?_
        refine z_iret rfl rfl ?_
        show zB _ _ _ _ _ _ [_] _ _
        refine z_iret rfl rfl ?_
        exact hK _ _ _ _ _ _ _ (zCP_q ⟨zTn_rf, (zQi_u zQi_rf (by unfold zIr; omega)), zQp_rf⟩ (zTm_rf _)) (by omega)
    ·
      refine z_aload_n (pc2 := 18) rfl rfl rfl ?_
      refine z_iconst (pc2 := 19) rfl rfl ?_
      refine z_callV (y2 := 142) (as := [_]) (rest := []) (pc2 := 22) rfl rfl rfl rfl t1 rfl ?_
      refine z_inl ?_
      refine z_lv (lv2 := [(0, _), (1, _)]) ⟨rfl, rfl, trivial⟩ ?_
      refine z_aload_n (pc2 := 1) rfl rfl rfl ?_
      refine z_iload_n (pc2 := 2) rfl rfl rfl ?_
      refine z_putI (pc2 := 5) rfl rfl rfl rfl rfl rfl t1 (by omega) True.intro ?_
      refine z_iload_n (pc2 := 6) rfl rfl rfl ?_
      refine z_iret rfl rfl ?_
      show zB _ _ _ _ _ _ [_] _ _
      refine z_iret rfl rfl ?_
      exact hK _ _ _ _ _ _ _ (zCP_q ⟨zTn_rf, (zQi_u zQi_rf (by unfold zIr; omega)), zQp_rf⟩ (zTm_rf _)) (by omega)
