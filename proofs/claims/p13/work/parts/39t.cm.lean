/-! the class: breaks are chosen -/
set_option maxHeartbeats 8000000 in
theorem c_Fount_kernOf {L : Nat} {xs : Nat → Int32} {n sl : Nat} {T : Nat → zT} {I : Nat → Nat → Int} {P : Nat → Nat → Option Nat} {G : Nat → Nat → Int} {K : List zV → zH → Prop} {a b un : Int} {fo : Nat} (hn : 90 ≤ n) (hC : ∀ a, 1 ≤ a → a ≤ 55 → T a = zFixC a) (ha : -1 ≤ a ∧ a ≤ 23) (hb : 0 ≤ b ∧ b ≤ 23) (hun : 0 ≤ un ∧ un ≤ 24) (hau : a < un) (tfo : T fo = (1, 3, [un])) (fol : fo ≤ n) (fo9 : 91 ≤ fo) (hK : ∀ e, zR e → K [.inl e] (n, sl, T, I, P, G)) : zX zMd L xs 43 [.inr (.inl (some fo)), .inl a, .inl b] (n, sl, T, I, P, G) K := by
  refine z_inl ?_
  refine z_lv (lv2 := [(0, _), (1, _), (2, _)]) ⟨rfl, rfl, rfl, trivial⟩ ?_
  refine z_iload_n (pc2 := 1) rfl rfl rfl ?_
  refine z_if_ge (t := 8) (pc2 := 4) rfl rfl rfl (by omega) (fun c1 => ?_) (fun c1 => ?_)
  ·
    refine z_aload_n (pc2 := 9) rfl rfl rfl ?_
    refine z_getP (pc2 := 12) rfl rfl rfl rfl tfo ?_
    intro p2 p2e p2k
    obtain ⟨q3, rfl, q39, tq3, -⟩ := p2k
    replace tq3 : _ = ((2, 3, [(un), 2]) : zT) := tq3
    refine zB_le tq3 trivial (fun q3l => ?_)
    refine z_iload_n (pc2 := 13) rfl rfl rfl ?_
    refine z_aald (pc2 := 14) rfl rfl tq3 rfl (by omega) (by omega) (by omega) ?_
    intro p4 p4e p4k
    rcases p4k with rfl | ⟨q5, rfl, q59, m6, tq5, q5b⟩
    ·
      refine z_astore_n (lv2 := [(3, _), (0, _), (1, _), (2, _)]) (pc2 := 15) rfl rfl rfl rfl ?_
      refine z_aload_n (pc2 := 16) rfl rfl rfl ?_
      refine z_ifnull (t := 25) (pc2 := 19) rfl rfl rfl (fun _ => ?_) (fun a h => by cases h)
      refine z_iconst (pc2 := 26) rfl rfl ?_
      refine z_goto (pc2 := 32) rfl rfl ?_
      refine z_iret rfl rfl ?_
      exact hK _ (by omega)
    ·
      replace tq5 : _ = ((2, 0, [(m6), 0]) : zT) := tq5
      refine zB_le tq5 trivial (fun q5l => ?_)
      refine z_astore_n (lv2 := [(3, _), (0, _), (1, _), (2, _)]) (pc2 := 15) rfl rfl rfl rfl ?_
      refine z_aload_n (pc2 := 16) rfl rfl rfl ?_
      refine z_ifnull (t := 25) (pc2 := 19) rfl rfl rfl (fun h => by cases h) (fun _ _ => ?_)
      refine z_iload_n (pc2 := 20) rfl rfl rfl ?_
      refine z_aload_n (pc2 := 21) rfl rfl rfl ?_
      refine z_alen (pc2 := 22) rfl rfl tq5 rfl (by omega) ?_
      refine z_icmp_lt (t := 29) (pc2 := 25) rfl rfl rfl (by omega) (by omega) (fun c7 => ?_) (fun c7 => ?_)
      ·
        refine z_aload_n (pc2 := 30) rfl rfl rfl ?_
        refine z_iload_n (pc2 := 31) rfl rfl rfl ?_
        refine z_iald (pc2 := 32) rfl rfl tq5 (by omega) (by omega) (by omega) ?_
        intro v8 e8 r8 k8
        clear k8
        clear e8
        refine z_iret rfl rfl ?_
        exact hK _ (by omega)
      ·
        refine z_iconst (pc2 := 26) rfl rfl ?_
        refine z_goto (pc2 := 32) rfl rfl ?_
        refine z_iret rfl rfl ?_
        exact hK _ (by omega)
  ·
    refine z_aconst_null (pc2 := 5) rfl rfl ?_
    refine z_goto (pc2 := 14) rfl rfl ?_
    refine z_astore_n (lv2 := [(3, _), (0, _), (1, _), (2, _)]) (pc2 := 15) rfl rfl rfl rfl ?_
    refine z_aload_n (pc2 := 16) rfl rfl rfl ?_
    refine z_ifnull (t := 25) (pc2 := 19) rfl rfl rfl (fun _ => ?_) (fun a h => by cases h)
    refine z_iconst (pc2 := 26) rfl rfl ?_
    refine z_goto (pc2 := 32) rfl rfl ?_
    refine z_iret rfl rfl ?_
    exact hK _ (by omega)
set_option maxHeartbeats 8000000 in
theorem c_Composer_add {L : Nat} {xs : Nat → Int32} {n sl : Nat} {T : Nat → zT} {I : Nat → Nat → Int} {P : Nat → Nat → Option Nat} {G : Nat → Nat → Int} {K : List zV → zH → Prop} {k un kd cd sd sp ru s en q : Int} {fo : Nat} (hn : 90 ≤ n) (hC : ∀ a, 1 ≤ a → a ≤ 55 → T a = zFixC a) (hk : 0 ≤ k ∧ k ≤ 39) (hun : 0 ≤ un ∧ un ≤ 24) (hkd : 0 ≤ kd ∧ kd ≤ 7) (hcd : 0 ≤ cd ∧ cd ≤ 23) (hsd : 0 ≤ sd ∧ sd ≤ 23) (hsp : 0 ≤ sp ∧ sp ≤ 60) (hru : 0 ≤ ru ∧ ru ≤ 60) (hs : 0 ≤ s ∧ s ≤ 60) (hen : -1 ≤ en ∧ en ≤ 23) (hq : 0 ≤ q ∧ q ≤ 60) (hrd : P 9 6 = some 5) (hcf : P 9 7 = some fo) (tfo : T fo = (1, 3, [un])) (fol : fo ≤ n) (fo9 : 91 ≤ fo) (hk6 : I 6 k.toNat = kd) (hk7 : I 7 k.toNat = cd) (hk8 : I 8 k.toNat = sd) (hv : zTw un kd cd sd) (h10 : I 9 10 = sp) (h11 : I 9 11 = ru) (h12 : I 9 12 = s) (h13 : I 9 13 = en) (hms : (0 ≤ sp ∧ sp ≤ q) ∧ (0 ≤ ru ∧ ru ≤ q) ∧ (0 ≤ s ∧ s ≤ q) ∧ (-1 ≤ en ∧ en < un)) (hK : ∀ I2, zCm I I2 → zMs un (q + 1) I2 → (kd = 6 ∨ kd = 7 → I2 9 12 = s) → (kd ≠ 6 → kd ≠ 7 → I2 9 12 = s + 1) → K [] (n, sl, T, I2, P, G)) : zX zMd L xs 8 [.inr (.inl (some 9)), .inl k] (n, sl, T, I, P, G) K := by
  have t5 : T 5 = (1, 7, [1]) := hC 5 (by decide) (by decide)
  have t6 : T 6 = (2, 0, [40, 20]) := hC 6 (by decide) (by decide)
  have t7 : T 7 = (2, 0, [40, 21]) := hC 7 (by decide) (by decide)
  have t8 : T 8 = (2, 0, [40, 21]) := hC 8 (by decide) (by decide)
  have t9 : T 9 = (1, 0, [1]) := hC 9 (by decide) (by decide)
  unfold zTw at hv
  refine z_inl ?_
  refine z_lv (lv2 := [(0, _), (1, _)]) ⟨rfl, rfl, trivial⟩ ?_
  refine z_aload_n (pc2 := 1) rfl rfl rfl ?_
  refine z_getP (pc2 := 4) rfl rfl rfl rfl t9 ?_
  intro p1 p1e p1k
  clear p1k; replace p1e : p1 = some 5 := by rw [p1e]; first | exact hrd | exact Eq.symm hrd | (simp [zU]; first | done | exact hrd | exact Eq.symm hrd | omega) | (refine Eq.trans (congrArg _ ?_) (Eq.symm hrd); omega)
  subst p1e
  refine z_getP (pc2 := 7) rfl rfl rfl rfl t5 ?_
  intro p2 p2e p2k
  replace p2k : p2 = some 7 := p2k; clear p2e; subst p2k
  refine z_iload_n (pc2 := 8) rfl rfl rfl ?_
  refine z_iald (pc2 := 9) rfl rfl t7 (by omega) (by omega) (by omega) ?_
  intro v3 e3 r3 k3
  replace k3 : (0 : Int) ≤ v3 ∧ v3 ≤ 23 := k3
  replace e3 : cd = v3 := by rw [e3]; first | exact hk7 | exact Eq.symm hk7 | (simp [zU]; first | done | exact hk7 | exact Eq.symm hk7 | omega) | (refine Eq.trans (congrArg _ ?_) (Eq.symm hk7); omega)
  subst e3
  refine z_istore_n (lv2 := [(2, _), (0, _), (1, _)]) (pc2 := 10) rfl rfl rfl rfl ?_
  refine z_aload_n (pc2 := 11) rfl rfl rfl ?_
  refine z_getP (pc2 := 14) rfl rfl rfl rfl t9 ?_
  intro p4 p4e p4k
  clear p4k; replace p4e : p4 = some 5 := by rw [p4e]; first | exact hrd | exact Eq.symm hrd | (simp [zU]; first | done | exact hrd | exact Eq.symm hrd | omega) | (refine Eq.trans (congrArg _ ?_) (Eq.symm hrd); omega)
  subst p4e
  refine z_getP (pc2 := 17) rfl rfl rfl rfl t5 ?_
  intro p5 p5e p5k
  replace p5k : p5 = some 6 := p5k; clear p5e; subst p5k
  refine z_iload_n (pc2 := 18) rfl rfl rfl ?_
  refine z_iald (pc2 := 19) rfl rfl t6 (by omega) (by omega) (by omega) ?_
  intro v6 e6 r6 k6
  replace k6 : (0 : Int) ≤ v6 ∧ v6 ≤ 7 := k6
  replace e6 : kd = v6 := by rw [e6]; first | exact hk6 | exact Eq.symm hk6 | (simp [zU]; first | done | exact hk6 | exact Eq.symm hk6 | omega) | (refine Eq.trans (congrArg _ ?_) (Eq.symm hk6); omega)
  subst e6
  refine z_tsw (td := 200) rfl rfl (by omega) (fun c7 => ?_) (fun j c7j c7h => ?_)
  ·
    refine z_ret rfl rfl ?_
    exact hK _ (by repeat (first | exact zCm_rf | assumption | refine zCm_u ?_ (by decide))) (zMs_in (a := (sp)) (b := (ru)) (s := (s)) (e := (en)) (by first | (simp [zU, h10, h11, h12, h13]; done) | (simp [zU, h10, h11, h12, h13] <;> omega) | omega) (by first | (simp [zU, h10, h11, h12, h13]; done) | (simp [zU, h10, h11, h12, h13] <;> omega) | omega) (by first | (simp [zU, h10, h11, h12, h13]; done) | (simp [zU, h10, h11, h12, h13] <;> omega) | omega) (by first | (simp [zU, h10, h11, h12, h13]; done) | (simp [zU, h10, h11, h12, h13] <;> omega) | omega) (by omega) (by omega) (by omega) (by omega)) (fun h => by first | (exfalso; omega) | exact (by first | (simp [zU, h10, h11, h12, h13]; done) | (simp [zU, h10, h11, h12, h13] <;> omega) | omega)) (fun h h2 => by first | (exfalso; omega) | exact (by first | (simp [zU, h10, h11, h12, h13]; done) | (simp [zU, h10, h11, h12, h13] <;> omega) | omega))
  ·
    have c7t : j = 0 ∨ j = 1 ∨ j = 2 ∨ j = 3 ∨ j = 4 ∨ j = 5 := by omega
    rcases c7t with rfl | rfl | rfl | rfl | rfl | rfl
    ·
      refine ⟨_, 56, rfl, rfl, ?_⟩
      refine z_aload_n (pc2 := 57) rfl rfl rfl ?_
      refine z_iload_n (pc2 := 58) rfl rfl rfl ?_
      refine z_iload_n (pc2 := 59) rfl rfl rfl ?_
      refine z_aload_n (pc2 := 60) rfl rfl rfl ?_
      refine z_getP (pc2 := 63) rfl rfl rfl rfl t9 ?_
      intro p8 p8e p8k
      clear p8k; replace p8e : p8 = some fo := by rw [p8e]; first | exact hcf | exact Eq.symm hcf | (simp [zU]; first | done | exact hcf | exact Eq.symm hcf | omega) | (refine Eq.trans (congrArg _ ?_) (Eq.symm hcf); omega)
      subst p8e
      refine z_getP (pc2 := 66) rfl rfl rfl rfl tfo ?_
      intro p9 p9e p9k
      obtain ⟨q10, rfl, q109, tq10, -⟩ := p9k
      replace tq10 : _ = ((2, 0, [(un), 0]) : zT) := tq10
      refine zB_le tq10 trivial (fun q10l => ?_)
      refine z_iload_n (pc2 := 67) rfl rfl rfl ?_
      refine z_iald (pc2 := 68) rfl rfl tq10 (by omega) (by omega) (by omega) ?_
      intro v11 e11 r11 k11
      clear k11
      refine z_callV (y2 := 9) (as := [_, _, _]) (rest := []) (pc2 := 71) rfl rfl rfl rfl t9 rfl ?_
      refine z_inl ?_
      refine z_lv (lv2 := [(0, _), (1, _), (2, _), (3, _)]) ⟨rfl, rfl, rfl, rfl, trivial⟩ ?_
      refine z_aload_n (pc2 := 1) rfl rfl rfl ?_
      refine z_dup (pc2 := 2) rfl rfl rfl ?_
      refine z_getI (pc2 := 5) 0 rfl rfl rfl rfl rfl t9 ?_
      intro v12 e12 r12 k12
      clear k12
      clear e12
      refine z_aload_n (pc2 := 6) rfl rfl rfl ?_
      refine z_getP (pc2 := 9) rfl rfl rfl rfl t9 ?_
      intro p13 p13e p13k
      clear p13k; replace p13e : p13 = some fo := by rw [p13e]; first | exact hcf | exact Eq.symm hcf | (simp [zU]; first | done | exact hcf | exact Eq.symm hcf | omega) | (refine Eq.trans (congrArg _ ?_) (Eq.symm hcf); omega)
      subst p13e
      refine z_aload_n (pc2 := 10) rfl rfl rfl ?_
      refine z_getI (pc2 := 13) 0 rfl rfl rfl rfl rfl t9 ?_
      intro v14 e14 r14 k14
      replace k14 : (-1 : Int) ≤ v14 ∧ v14 ≤ 23 := k14
      replace e14 : en = v14 := by rw [e14]; first | exact h13 | exact Eq.symm h13 | (simp [zU]; first | done | exact h13 | exact Eq.symm h13 | omega) | (refine Eq.trans (congrArg _ ?_) (Eq.symm h13); omega)
      subst e14
      refine z_iload_n (pc2 := 14) rfl rfl rfl ?_
      refine z_callV (y2 := 43) (as := [_, _]) (rest := [_, _]) (pc2 := 17) rfl rfl rfl rfl tfo rfl ?_
      refine c_Fount_kernOf hn hC (by omega) (by omega) (by omega) (by omega) tfo (by omega) (by omega) (fun w15 w15r => ?_)
      show zB _ _ _ _ _ _ [_, _, _] _ _
      refine z_iload_n (pc2 := 18) rfl rfl rfl ?_
      refine z_iadd (pc2 := 19) rfl rfl ?_
      refine z_iadd (pc2 := 20) rfl rfl ?_
      refine z_putI_any (pc2 := 23) rfl rfl rfl rfl rfl rfl t9 (fun _ _ => True.intro) (fun u16 u16r => ?_)
      refine z_aload_n (pc2 := 24) rfl rfl rfl ?_
      refine z_iload_n (pc2 := 25) rfl rfl rfl ?_
      refine z_putI (pc2 := 28) rfl rfl rfl rfl rfl rfl t9 (by omega) (by show (-1 : Int) ≤ _ ∧ _ ≤ 23; omega) ?_
      refine z_aload_n (pc2 := 29) rfl rfl rfl ?_
      refine z_dup (pc2 := 30) rfl rfl rfl ?_
      refine z_getI (pc2 := 33) 0 rfl rfl rfl rfl rfl t9 ?_
      intro v17 e17 r17 k17
      replace k17 : (0 : Int) ≤ v17 ∧ v17 ≤ 100 := k17
      replace e17 : s = v17 := by rw [e17]; first | exact h12 | exact Eq.symm h12 | (simp [zU]; first | done | exact h12 | exact Eq.symm h12 | omega) | (refine Eq.trans (congrArg _ ?_) (Eq.symm h12); omega)
      subst e17
      refine z_iconst (pc2 := 34) rfl rfl ?_
      refine z_iadd (pc2 := 35) rfl rfl ?_
      refine z_putI (pc2 := 38) rfl rfl rfl rfl rfl rfl t9 (by omega) (by show (0 : Int) ≤ _ ∧ _ ≤ 100; omega) ?_
      refine z_ret rfl rfl ?_
      show zB _ _ _ _ _ _ [] _ _
      refine z_goto (pc2 := 200) rfl rfl ?_
      refine z_ret rfl rfl ?_
      exact hK _ (by repeat (first | exact zCm_rf | assumption | refine zCm_u ?_ (by decide))) (zMs_in (a := (sp)) (b := (ru)) (s := (s + 1)) (e := (cd)) (by first | (simp [zU, h10, h11, h12, h13]; done) | (simp [zU, h10, h11, h12, h13] <;> omega) | omega) (by first | (simp [zU, h10, h11, h12, h13]; done) | (simp [zU, h10, h11, h12, h13] <;> omega) | omega) (by first | (simp [zU, h10, h11, h12, h13]; done) | (simp [zU, h10, h11, h12, h13] <;> omega) | omega) (by first | (simp [zU, h10, h11, h12, h13]; done) | (simp [zU, h10, h11, h12, h13] <;> omega) | omega) (by omega) (by omega) (by omega) (by omega)) (fun h => by first | (exfalso; omega) | exact (by first | (simp [zU, h10, h11, h12, h13]; done) | (simp [zU, h10, h11, h12, h13] <;> omega) | omega)) (fun h h2 => by first | (exfalso; omega) | exact (by first | (simp [zU, h10, h11, h12, h13]; done) | (simp [zU, h10, h11, h12, h13] <;> omega) | omega))
    ·
      refine ⟨_, 74, rfl, rfl, ?_⟩
      refine z_aload_n (pc2 := 75) rfl rfl rfl ?_
      refine z_aload_n (pc2 := 76) rfl rfl rfl ?_
      refine z_getP (pc2 := 79) rfl rfl rfl rfl t9 ?_
      intro p18 p18e p18k
      clear p18k; replace p18e : p18 = some fo := by rw [p18e]; first | exact hcf | exact Eq.symm hcf | (simp [zU]; first | done | exact hcf | exact Eq.symm hcf | omega) | (refine Eq.trans (congrArg _ ?_) (Eq.symm hcf); omega)
      subst p18e
      refine z_iload_n (pc2 := 80) rfl rfl rfl ?_
      refine z_callV (y2 := 40) (as := [_]) (rest := [_]) (pc2 := 83) rfl rfl rfl rfl tfo rfl ?_
      refine z_inl ?_
      refine z_lv (lv2 := [(0, _), (1, _)]) ⟨rfl, rfl, trivial⟩ ?_
      refine z_aload_n (pc2 := 1) rfl rfl rfl ?_
      refine z_getP (pc2 := 4) rfl rfl rfl rfl tfo ?_
      intro p19 p19e p19k
      obtain ⟨q20, rfl, q209, tq20, -⟩ := p19k
      replace tq20 : _ = ((2, 0, [18, 26, un]) : zT) := tq20
      refine zB_le tq20 trivial (fun q20l => ?_)
      refine z_iload_n (pc2 := 5) rfl rfl rfl ?_
      refine z_iconst (pc2 := 6) rfl rfl ?_
      refine z_imul (pc2 := 7) rfl rfl ?_
      refine z_iald (pc2 := 8) rfl rfl tq20 (by omega) (by omega) (by omega) ?_
      intro v21 e21 r21 k21
      replace k21 := ok_26 k21
      refine z_iret rfl rfl ?_
      show zB _ _ _ _ _ _ [_, _] _ _
      refine z_aload_n (pc2 := 84) rfl rfl rfl ?_
      refine z_getP (pc2 := 87) rfl rfl rfl rfl t9 ?_
      intro p22 p22e p22k
      clear p22k; replace p22e : p22 = some fo := by rw [p22e]; first | exact hcf | exact Eq.symm hcf | (simp [zU]; first | done | exact hcf | exact Eq.symm hcf | omega) | (refine Eq.trans (congrArg _ ?_) (Eq.symm hcf); omega)
      subst p22e
      refine z_iload_n (pc2 := 88) rfl rfl rfl ?_
      refine z_callV (y2 := 41) (as := [_]) (rest := [_, _]) (pc2 := 91) rfl rfl rfl rfl tfo rfl ?_
      refine z_inl ?_
      refine z_lv (lv2 := [(0, _), (1, _)]) ⟨rfl, rfl, trivial⟩ ?_
      refine z_aload_n (pc2 := 1) rfl rfl rfl ?_
      refine z_getP (pc2 := 4) rfl rfl rfl rfl tfo ?_
      intro p23 p23e p23k
      clear p23k; replace p23e : p23 = some q20 := by rw [p23e]; first | exact p19e | exact Eq.symm p19e | (simp [zU]; first | done | exact p19e | exact Eq.symm p19e | omega) | (refine Eq.trans (congrArg _ ?_) (Eq.symm p19e); omega)
      subst p23e
      refine z_iload_n (pc2 := 5) rfl rfl rfl ?_
      refine z_iconst (pc2 := 6) rfl rfl ?_
      refine z_imul (pc2 := 7) rfl rfl ?_
      refine z_aload_n (pc2 := 8) rfl rfl rfl ?_
      refine z_iload_n (pc2 := 9) rfl rfl rfl ?_
      refine z_callV (y2 := 39) (as := [_]) (rest := [_, _]) (pc2 := 12) rfl rfl rfl rfl tfo rfl ?_
      refine c_Fount_joinLength hn hC (by omega) (by omega) tfo (by omega) (by omega) (fun w24 w24r => ?_)
      show zB _ _ _ _ _ _ [_, _, _] _ _
      refine z_iadd (pc2 := 13) rfl rfl ?_
      refine z_iconst (pc2 := 14) rfl rfl ?_
      refine z_isub (pc2 := 15) rfl rfl ?_
      refine z_iald (pc2 := 16) rfl rfl tq20 (by omega) (by omega) (by omega) ?_
      intro v25 e25 r25 k25
      replace k25 := ok_26 k25
      refine z_iret rfl rfl ?_
      show zB _ _ _ _ _ _ [_, _, _] _ _
      refine z_aload_n (pc2 := 92) rfl rfl rfl ?_
      refine z_getP (pc2 := 95) rfl rfl rfl rfl t9 ?_
      intro p26 p26e p26k
      clear p26k; replace p26e : p26 = some fo := by rw [p26e]; first | exact hcf | exact Eq.symm hcf | (simp [zU]; first | done | exact hcf | exact Eq.symm hcf | omega) | (refine Eq.trans (congrArg _ ?_) (Eq.symm hcf); omega)
      subst p26e
      refine z_getP (pc2 := 98) rfl rfl rfl rfl tfo ?_
      intro p27 p27e p27k
      obtain ⟨q28, rfl, q289, tq28, -⟩ := p27k
      replace tq28 : _ = ((2, 0, [6, 0]) : zT) := tq28
      refine zB_le tq28 trivial (fun q28l => ?_)
      refine z_iload_n (pc2 := 99) rfl rfl rfl ?_
      refine z_iald (pc2 := 100) rfl rfl tq28 (by omega) (by omega) (by omega) ?_
      intro v29 e29 r29 k29
      clear k29
      refine z_callV (y2 := 9) (as := [_, _, _]) (rest := []) (pc2 := 103) rfl rfl rfl rfl t9 rfl ?_
      refine z_inl ?_
      refine z_lv (lv2 := [(0, _), (1, _), (2, _), (3, _)]) ⟨rfl, rfl, rfl, rfl, trivial⟩ ?_
      refine z_aload_n (pc2 := 1) rfl rfl rfl ?_
      refine z_dup (pc2 := 2) rfl rfl rfl ?_
      refine z_getI (pc2 := 5) 0 rfl rfl rfl rfl rfl t9 ?_
      intro v30 e30 r30 k30
      clear k30
      clear e30
      refine z_aload_n (pc2 := 6) rfl rfl rfl ?_
      refine z_getP (pc2 := 9) rfl rfl rfl rfl t9 ?_
      intro p31 p31e p31k
      clear p31k; replace p31e : p31 = some fo := by rw [p31e]; first | exact hcf | exact Eq.symm hcf | (simp [zU]; first | done | exact hcf | exact Eq.symm hcf | omega) | (refine Eq.trans (congrArg _ ?_) (Eq.symm hcf); omega)
      subst p31e
      refine z_aload_n (pc2 := 10) rfl rfl rfl ?_
      refine z_getI (pc2 := 13) 0 rfl rfl rfl rfl rfl t9 ?_
      intro v32 e32 r32 k32
      replace k32 : (-1 : Int) ≤ v32 ∧ v32 ≤ 23 := k32
      replace e32 : en = v32 := by rw [e32]; first | exact h13 | exact Eq.symm h13 | (simp [zU]; first | done | exact h13 | exact Eq.symm h13 | omega) | (refine Eq.trans (congrArg _ ?_) (Eq.symm h13); omega)
      subst e32
      refine z_iload_n (pc2 := 14) rfl rfl rfl ?_
      refine z_callV (y2 := 43) (as := [_, _]) (rest := [_, _]) (pc2 := 17) rfl rfl rfl rfl tfo rfl ?_
      refine c_Fount_kernOf hn hC (by omega) (by omega) (by omega) (by omega) tfo (by omega) (by omega) (fun w33 w33r => ?_)
      show zB _ _ _ _ _ _ [_, _, _] _ _
      refine z_iload_n (pc2 := 18) rfl rfl rfl ?_
      refine z_iadd (pc2 := 19) rfl rfl ?_
      refine z_iadd (pc2 := 20) rfl rfl ?_
      refine z_putI_any (pc2 := 23) rfl rfl rfl rfl rfl rfl t9 (fun _ _ => True.intro) (fun u34 u34r => ?_)
      refine z_aload_n (pc2 := 24) rfl rfl rfl ?_
      refine z_iload_n (pc2 := 25) rfl rfl rfl ?_
      refine z_putI (pc2 := 28) rfl rfl rfl rfl rfl rfl t9 (by omega) (by show (-1 : Int) ≤ _ ∧ _ ≤ 23; omega) ?_
      refine z_aload_n (pc2 := 29) rfl rfl rfl ?_
      refine z_dup (pc2 := 30) rfl rfl rfl ?_
      refine z_getI (pc2 := 33) 0 rfl rfl rfl rfl rfl t9 ?_
      intro v35 e35 r35 k35
      replace k35 : (0 : Int) ≤ v35 ∧ v35 ≤ 100 := k35
      replace e35 : s = v35 := by rw [e35]; first | exact h12 | exact Eq.symm h12 | (simp [zU]; first | done | exact h12 | exact Eq.symm h12 | omega) | (refine Eq.trans (congrArg _ ?_) (Eq.symm h12); omega)
      subst e35
      refine z_iconst (pc2 := 34) rfl rfl ?_
      refine z_iadd (pc2 := 35) rfl rfl ?_
      refine z_putI (pc2 := 38) rfl rfl rfl rfl rfl rfl t9 (by omega) (by show (0 : Int) ≤ _ ∧ _ ≤ 100; omega) ?_
      refine z_ret rfl rfl ?_
      show zB _ _ _ _ _ _ [] _ _
      refine z_goto (pc2 := 200) rfl rfl ?_
      refine z_ret rfl rfl ?_
      exact hK _ (by repeat (first | exact zCm_rf | assumption | refine zCm_u ?_ (by decide))) (zMs_in (a := (sp)) (b := (ru)) (s := (s + 1)) (e := (v25)) (by first | (simp [zU, h10, h11, h12, h13]; done) | (simp [zU, h10, h11, h12, h13] <;> omega) | omega) (by first | (simp [zU, h10, h11, h12, h13]; done) | (simp [zU, h10, h11, h12, h13] <;> omega) | omega) (by first | (simp [zU, h10, h11, h12, h13]; done) | (simp [zU, h10, h11, h12, h13] <;> omega) | omega) (by first | (simp [zU, h10, h11, h12, h13]; done) | (simp [zU, h10, h11, h12, h13] <;> omega) | omega) (by omega) (by omega) (by omega) (by omega)) (fun h => by first | (exfalso; omega) | exact (by first | (simp [zU, h10, h11, h12, h13]; done) | (simp [zU, h10, h11, h12, h13] <;> omega) | omega)) (fun h h2 => by first | (exfalso; omega) | exact (by first | (simp [zU, h10, h11, h12, h13]; done) | (simp [zU, h10, h11, h12, h13] <;> omega) | omega))
    ·
      refine ⟨_, 106, rfl, rfl, ?_⟩
      refine z_aload_n (pc2 := 107) rfl rfl rfl ?_
      refine z_dup (pc2 := 108) rfl rfl rfl ?_
      refine z_getI (pc2 := 111) 0 rfl rfl rfl rfl rfl t9 ?_
      intro v36 e36 r36 k36
      replace k36 : (0 : Int) ≤ v36 ∧ v36 ≤ 100 := k36
      replace e36 : sp = v36 := by rw [e36]; first | exact h10 | exact Eq.symm h10 | (simp [zU]; first | done | exact h10 | exact Eq.symm h10 | omega) | (refine Eq.trans (congrArg _ ?_) (Eq.symm h10); omega)
      subst e36
      refine z_iconst (pc2 := 112) rfl rfl ?_
      refine z_iadd (pc2 := 113) rfl rfl ?_
      refine z_putI (pc2 := 116) rfl rfl rfl rfl rfl rfl t9 (by omega) (by show (0 : Int) ≤ _ ∧ _ ≤ 100; omega) ?_
      refine z_aload_n (pc2 := 117) rfl rfl rfl ?_
      refine z_aload_n (pc2 := 118) rfl rfl rfl ?_
      refine z_getP (pc2 := 121) rfl rfl rfl rfl t9 ?_
      intro p37 p37e p37k
      clear p37k; replace p37e : p37 = some fo := by rw [p37e]; first | exact hcf | exact Eq.symm hcf | (simp [zU]; first | done | exact hcf | exact Eq.symm hcf | omega) | (refine Eq.trans (congrArg _ ?_) (Eq.symm hcf); omega)
      subst p37e
      refine z_getI (pc2 := 124) 0 rfl rfl rfl rfl rfl tfo ?_
      intro v38 e38 r38 k38
      clear k38
      clear e38
      refine z_callV (y2 := 10) (as := [_]) (rest := []) (pc2 := 127) rfl rfl rfl rfl t9 rfl ?_
      refine z_inl ?_
      refine z_lv (lv2 := [(0, _), (1, _)]) ⟨rfl, rfl, trivial⟩ ?_
      refine z_aload_n (pc2 := 1) rfl rfl rfl ?_
      refine z_dup (pc2 := 2) rfl rfl rfl ?_
      refine z_getI (pc2 := 5) 0 rfl rfl rfl rfl rfl t9 ?_
      intro v39 e39 r39 k39
      clear k39
      clear e39
      refine z_iload_n (pc2 := 6) rfl rfl rfl ?_
      refine z_iadd (pc2 := 7) rfl rfl ?_
      refine z_putI_any (pc2 := 10) rfl rfl rfl rfl rfl rfl t9 (fun _ _ => True.intro) (fun u40 u40r => ?_)
      refine z_aload_n (pc2 := 11) rfl rfl rfl ?_
      refine z_iconst (pc2 := 12) rfl rfl ?_
      refine z_putI (pc2 := 15) rfl rfl rfl rfl rfl rfl t9 (by omega) (by show (-1 : Int) ≤ _ ∧ _ ≤ 23; omega) ?_
      refine z_aload_n (pc2 := 16) rfl rfl rfl ?_
      refine z_dup (pc2 := 17) rfl rfl rfl ?_
      refine z_getI (pc2 := 20) 0 rfl rfl rfl rfl rfl t9 ?_
      intro v41 e41 r41 k41
      replace k41 : (0 : Int) ≤ v41 ∧ v41 ≤ 100 := k41
      replace e41 : s = v41 := by rw [e41]; first | exact h12 | exact Eq.symm h12 | (simp [zU]; first | done | exact h12 | exact Eq.symm h12 | omega) | (refine Eq.trans (congrArg _ ?_) (Eq.symm h12); omega)
      subst e41
      refine z_iconst (pc2 := 21) rfl rfl ?_
      refine z_iadd (pc2 := 22) rfl rfl ?_
      refine z_putI (pc2 := 25) rfl rfl rfl rfl rfl rfl t9 (by omega) (by show (0 : Int) ≤ _ ∧ _ ≤ 100; omega) ?_
      refine z_ret rfl rfl ?_
      show zB _ _ _ _ _ _ [] _ _
      refine z_goto (pc2 := 200) rfl rfl ?_
      refine z_ret rfl rfl ?_
      exact hK _ (by repeat (first | exact zCm_rf | assumption | refine zCm_u ?_ (by decide))) (zMs_in (a := (sp + 1)) (b := (ru)) (s := (s + 1)) (e := ((-1))) (by first | (simp [zU, h10, h11, h12, h13]; done) | (simp [zU, h10, h11, h12, h13] <;> omega) | omega) (by first | (simp [zU, h10, h11, h12, h13]; done) | (simp [zU, h10, h11, h12, h13] <;> omega) | omega) (by first | (simp [zU, h10, h11, h12, h13]; done) | (simp [zU, h10, h11, h12, h13] <;> omega) | omega) (by first | (simp [zU, h10, h11, h12, h13]; done) | (simp [zU, h10, h11, h12, h13] <;> omega) | omega) (by omega) (by omega) (by omega) (by omega)) (fun h => by first | (exfalso; omega) | exact (by first | (simp [zU, h10, h11, h12, h13]; done) | (simp [zU, h10, h11, h12, h13] <;> omega) | omega)) (fun h h2 => by first | (exfalso; omega) | exact (by first | (simp [zU, h10, h11, h12, h13]; done) | (simp [zU, h10, h11, h12, h13] <;> omega) | omega))
    ·
      refine ⟨_, 130, rfl, rfl, ?_⟩
      refine z_aload_n (pc2 := 131) rfl rfl rfl ?_
      refine z_dup (pc2 := 132) rfl rfl rfl ?_
      refine z_getI (pc2 := 135) 0 rfl rfl rfl rfl rfl t9 ?_
      intro v42 e42 r42 k42
      replace k42 : (0 : Int) ≤ v42 ∧ v42 ≤ 100 := k42
      replace e42 : ru = v42 := by rw [e42]; first | exact h11 | exact Eq.symm h11 | (simp [zU]; first | done | exact h11 | exact Eq.symm h11 | omega) | (refine Eq.trans (congrArg _ ?_) (Eq.symm h11); omega)
      subst e42
      refine z_iconst (pc2 := 136) rfl rfl ?_
      refine z_iadd (pc2 := 137) rfl rfl ?_
      refine z_putI (pc2 := 140) rfl rfl rfl rfl rfl rfl t9 (by omega) (by show (0 : Int) ≤ _ ∧ _ ≤ 100; omega) ?_
      refine z_aload_n (pc2 := 141) rfl rfl rfl ?_
      refine z_iconst (pc2 := 142) rfl rfl ?_
      refine z_callV (y2 := 10) (as := [_]) (rest := []) (pc2 := 145) rfl rfl rfl rfl t9 rfl ?_
      refine z_inl ?_
      refine z_lv (lv2 := [(0, _), (1, _)]) ⟨rfl, rfl, trivial⟩ ?_
      refine z_aload_n (pc2 := 1) rfl rfl rfl ?_
      refine z_dup (pc2 := 2) rfl rfl rfl ?_
      refine z_getI (pc2 := 5) 0 rfl rfl rfl rfl rfl t9 ?_
      intro v43 e43 r43 k43
      clear k43
      clear e43
      refine z_iload_n (pc2 := 6) rfl rfl rfl ?_
      refine z_iadd (pc2 := 7) rfl rfl ?_
      refine z_putI (pc2 := 10) rfl rfl rfl rfl rfl rfl t9 (by omega) True.intro ?_
      refine z_aload_n (pc2 := 11) rfl rfl rfl ?_
      refine z_iconst (pc2 := 12) rfl rfl ?_
      refine z_putI (pc2 := 15) rfl rfl rfl rfl rfl rfl t9 (by omega) (by show (-1 : Int) ≤ _ ∧ _ ≤ 23; omega) ?_
      refine z_aload_n (pc2 := 16) rfl rfl rfl ?_
      refine z_dup (pc2 := 17) rfl rfl rfl ?_
      refine z_getI (pc2 := 20) 0 rfl rfl rfl rfl rfl t9 ?_
      intro v44 e44 r44 k44
      replace k44 : (0 : Int) ≤ v44 ∧ v44 ≤ 100 := k44
      replace e44 : s = v44 := by rw [e44]; first | exact h12 | exact Eq.symm h12 | (simp [zU]; first | done | exact h12 | exact Eq.symm h12 | omega) | (refine Eq.trans (congrArg _ ?_) (Eq.symm h12); omega)
      subst e44
      refine z_iconst (pc2 := 21) rfl rfl ?_
      refine z_iadd (pc2 := 22) rfl rfl ?_
      refine z_putI (pc2 := 25) rfl rfl rfl rfl rfl rfl t9 (by omega) (by show (0 : Int) ≤ _ ∧ _ ≤ 100; omega) ?_
      refine z_ret rfl rfl ?_
      show zB _ _ _ _ _ _ [] _ _
      refine z_goto (pc2 := 200) rfl rfl ?_
      refine z_ret rfl rfl ?_
      exact hK _ (by repeat (first | exact zCm_rf | assumption | refine zCm_u ?_ (by decide))) (zMs_in (a := (sp)) (b := (ru + 1)) (s := (s + 1)) (e := ((-1))) (by first | (simp [zU, h10, h11, h12, h13]; done) | (simp [zU, h10, h11, h12, h13] <;> omega) | omega) (by first | (simp [zU, h10, h11, h12, h13]; done) | (simp [zU, h10, h11, h12, h13] <;> omega) | omega) (by first | (simp [zU, h10, h11, h12, h13]; done) | (simp [zU, h10, h11, h12, h13] <;> omega) | omega) (by first | (simp [zU, h10, h11, h12, h13]; done) | (simp [zU, h10, h11, h12, h13] <;> omega) | omega) (by omega) (by omega) (by omega) (by omega)) (fun h => by first | (exfalso; omega) | exact (by first | (simp [zU, h10, h11, h12, h13]; done) | (simp [zU, h10, h11, h12, h13] <;> omega) | omega)) (fun h h2 => by first | (exfalso; omega) | exact (by first | (simp [zU, h10, h11, h12, h13]; done) | (simp [zU, h10, h11, h12, h13] <;> omega) | omega))
    ·
      refine ⟨_, 148, rfl, rfl, ?_⟩
      refine z_aload_n (pc2 := 149) rfl rfl rfl ?_
      refine z_aload_n (pc2 := 150) rfl rfl rfl ?_
      refine z_getP (pc2 := 153) rfl rfl rfl rfl t9 ?_
      intro p45 p45e p45k
      clear p45k; replace p45e : p45 = some fo := by rw [p45e]; first | exact hcf | exact Eq.symm hcf | (simp [zU]; first | done | exact hcf | exact Eq.symm hcf | omega) | (refine Eq.trans (congrArg _ ?_) (Eq.symm hcf); omega)
      subst p45e
      refine z_getP (pc2 := 156) rfl rfl rfl rfl tfo ?_
      intro p46 p46e p46k
      obtain ⟨q47, rfl, q479, tq47, -⟩ := p46k
      replace tq47 : _ = ((2, 0, [4, 0]) : zT) := tq47
      refine zB_le tq47 trivial (fun q47l => ?_)
      refine z_iload_n (pc2 := 157) rfl rfl rfl ?_
      refine z_iald (pc2 := 158) rfl rfl tq47 (by omega) (by omega) (by omega) ?_
      intro v48 e48 r48 k48
      clear k48
      refine z_callV (y2 := 10) (as := [_]) (rest := []) (pc2 := 161) rfl rfl rfl rfl t9 rfl ?_
      refine z_inl ?_
      refine z_lv (lv2 := [(0, _), (1, _)]) ⟨rfl, rfl, trivial⟩ ?_
      refine z_aload_n (pc2 := 1) rfl rfl rfl ?_
      refine z_dup (pc2 := 2) rfl rfl rfl ?_
      refine z_getI (pc2 := 5) 0 rfl rfl rfl rfl rfl t9 ?_
      intro v49 e49 r49 k49
      clear k49
      clear e49
      refine z_iload_n (pc2 := 6) rfl rfl rfl ?_
      refine z_iadd (pc2 := 7) rfl rfl ?_
      refine z_putI_any (pc2 := 10) rfl rfl rfl rfl rfl rfl t9 (fun _ _ => True.intro) (fun u50 u50r => ?_)
      refine z_aload_n (pc2 := 11) rfl rfl rfl ?_
      refine z_iconst (pc2 := 12) rfl rfl ?_
      refine z_putI (pc2 := 15) rfl rfl rfl rfl rfl rfl t9 (by omega) (by show (-1 : Int) ≤ _ ∧ _ ≤ 23; omega) ?_
      refine z_aload_n (pc2 := 16) rfl rfl rfl ?_
      refine z_dup (pc2 := 17) rfl rfl rfl ?_
      refine z_getI (pc2 := 20) 0 rfl rfl rfl rfl rfl t9 ?_
      intro v51 e51 r51 k51
      replace k51 : (0 : Int) ≤ v51 ∧ v51 ≤ 100 := k51
      replace e51 : s = v51 := by rw [e51]; first | exact h12 | exact Eq.symm h12 | (simp [zU]; first | done | exact h12 | exact Eq.symm h12 | omega) | (refine Eq.trans (congrArg _ ?_) (Eq.symm h12); omega)
      subst e51
      refine z_iconst (pc2 := 21) rfl rfl ?_
      refine z_iadd (pc2 := 22) rfl rfl ?_
      refine z_putI (pc2 := 25) rfl rfl rfl rfl rfl rfl t9 (by omega) (by show (0 : Int) ≤ _ ∧ _ ≤ 100; omega) ?_
      refine z_ret rfl rfl ?_
      show zB _ _ _ _ _ _ [] _ _
      refine z_goto (pc2 := 200) rfl rfl ?_
      refine z_ret rfl rfl ?_
      exact hK _ (by repeat (first | exact zCm_rf | assumption | refine zCm_u ?_ (by decide))) (zMs_in (a := (sp)) (b := (ru)) (s := (s + 1)) (e := ((-1))) (by first | (simp [zU, h10, h11, h12, h13]; done) | (simp [zU, h10, h11, h12, h13] <;> omega) | omega) (by first | (simp [zU, h10, h11, h12, h13]; done) | (simp [zU, h10, h11, h12, h13] <;> omega) | omega) (by first | (simp [zU, h10, h11, h12, h13]; done) | (simp [zU, h10, h11, h12, h13] <;> omega) | omega) (by first | (simp [zU, h10, h11, h12, h13]; done) | (simp [zU, h10, h11, h12, h13] <;> omega) | omega) (by omega) (by omega) (by omega) (by omega)) (fun h => by first | (exfalso; omega) | exact (by first | (simp [zU, h10, h11, h12, h13]; done) | (simp [zU, h10, h11, h12, h13] <;> omega) | omega)) (fun h h2 => by first | (exfalso; omega) | exact (by first | (simp [zU, h10, h11, h12, h13]; done) | (simp [zU, h10, h11, h12, h13] <;> omega) | omega))
    ·
      refine ⟨_, 164, rfl, rfl, ?_⟩
      refine z_aload_n (pc2 := 165) rfl rfl rfl ?_
      refine z_aload_n (pc2 := 166) rfl rfl rfl ?_
      refine z_getP (pc2 := 169) rfl rfl rfl rfl t9 ?_
      intro p52 p52e p52k
      clear p52k; replace p52e : p52 = some fo := by rw [p52e]; first | exact hcf | exact Eq.symm hcf | (simp [zU]; first | done | exact hcf | exact Eq.symm hcf | omega) | (refine Eq.trans (congrArg _ ?_) (Eq.symm hcf); omega)
      subst p52e
      refine z_getP (pc2 := 172) rfl rfl rfl rfl tfo ?_
      intro p53 p53e p53k
      obtain ⟨q54, rfl, q549, tq54, -⟩ := p53k
      replace tq54 : _ = ((2, 0, [(un), 0]) : zT) := tq54
      refine zB_le tq54 trivial (fun q54l => ?_)
      refine z_iload_n (pc2 := 173) rfl rfl rfl ?_
      refine z_iald (pc2 := 174) rfl rfl tq54 (by omega) (by omega) (by omega) ?_
      intro v55 e55 r55 k55
      clear k55
      refine z_aload_n (pc2 := 175) rfl rfl rfl ?_
      refine z_getP (pc2 := 178) rfl rfl rfl rfl t9 ?_
      intro p56 p56e p56k
      clear p56k; replace p56e : p56 = some fo := by rw [p56e]; first | exact hcf | exact Eq.symm hcf | (simp [zU]; first | done | exact hcf | exact Eq.symm hcf | omega) | (refine Eq.trans (congrArg _ ?_) (Eq.symm hcf); omega)
      subst p56e
      refine z_getP (pc2 := 181) rfl rfl rfl rfl tfo ?_
      intro p57 p57e p57k
      obtain ⟨q58, rfl, q589, tq58, -⟩ := p57k
      replace tq58 : _ = ((2, 0, [(un), 0]) : zT) := tq58
      refine zB_le tq58 trivial (fun q58l => ?_)
      refine z_aload_n (pc2 := 182) rfl rfl rfl ?_
      refine z_getP (pc2 := 185) rfl rfl rfl rfl t9 ?_
      intro p59 p59e p59k
      clear p59k; replace p59e : p59 = some 5 := by rw [p59e]; first | exact hrd | exact Eq.symm hrd | (simp [zU]; first | done | exact hrd | exact Eq.symm hrd | omega) | (refine Eq.trans (congrArg _ ?_) (Eq.symm hrd); omega)
      subst p59e
      refine z_getP (pc2 := 188) rfl rfl rfl rfl t5 ?_
      intro p60 p60e p60k
      replace p60k : p60 = some 8 := p60k; clear p60e; subst p60k
      refine z_iload_n (pc2 := 189) rfl rfl rfl ?_
      refine z_iald (pc2 := 190) rfl rfl t8 (by omega) (by omega) (by omega) ?_
      intro v61 e61 r61 k61
      replace k61 : (0 : Int) ≤ v61 ∧ v61 ≤ 23 := k61
      replace e61 : sd = v61 := by rw [e61]; first | exact hk8 | exact Eq.symm hk8 | (simp [zU]; first | done | exact hk8 | exact Eq.symm hk8 | omega) | (refine Eq.trans (congrArg _ ?_) (Eq.symm hk8); omega)
      subst e61
      refine z_iald (pc2 := 191) rfl rfl tq58 (by omega) (by omega) (by omega) ?_
      intro v62 e62 r62 k62
      clear k62
      refine z_max (pc2 := 194) rfl rfl rfl rfl (by omega) (by omega) (fun v63 v63a v63b => ?_)
      refine z_callV (y2 := 10) (as := [_]) (rest := []) (pc2 := 197) rfl rfl rfl rfl t9 rfl ?_
      refine z_inl ?_
      refine z_lv (lv2 := [(0, _), (1, _)]) ⟨rfl, rfl, trivial⟩ ?_
      refine z_aload_n (pc2 := 1) rfl rfl rfl ?_
      refine z_dup (pc2 := 2) rfl rfl rfl ?_
      refine z_getI (pc2 := 5) 0 rfl rfl rfl rfl rfl t9 ?_
      intro v64 e64 r64 k64
      clear k64
      clear e64
      refine z_iload_n (pc2 := 6) rfl rfl rfl ?_
      refine z_iadd (pc2 := 7) rfl rfl ?_
      refine z_putI_any (pc2 := 10) rfl rfl rfl rfl rfl rfl t9 (fun _ _ => True.intro) (fun u65 u65r => ?_)
      refine z_aload_n (pc2 := 11) rfl rfl rfl ?_
      refine z_iconst (pc2 := 12) rfl rfl ?_
      refine z_putI (pc2 := 15) rfl rfl rfl rfl rfl rfl t9 (by omega) (by show (-1 : Int) ≤ _ ∧ _ ≤ 23; omega) ?_
      refine z_aload_n (pc2 := 16) rfl rfl rfl ?_
      refine z_dup (pc2 := 17) rfl rfl rfl ?_
      refine z_getI (pc2 := 20) 0 rfl rfl rfl rfl rfl t9 ?_
      intro v66 e66 r66 k66
      replace k66 : (0 : Int) ≤ v66 ∧ v66 ≤ 100 := k66
      replace e66 : s = v66 := by rw [e66]; first | exact h12 | exact Eq.symm h12 | (simp [zU]; first | done | exact h12 | exact Eq.symm h12 | omega) | (refine Eq.trans (congrArg _ ?_) (Eq.symm h12); omega)
      subst e66
      refine z_iconst (pc2 := 21) rfl rfl ?_
      refine z_iadd (pc2 := 22) rfl rfl ?_
      refine z_putI (pc2 := 25) rfl rfl rfl rfl rfl rfl t9 (by omega) (by show (0 : Int) ≤ _ ∧ _ ≤ 100; omega) ?_
      refine z_ret rfl rfl ?_
      show zB _ _ _ _ _ _ [] _ _
      refine z_goto (pc2 := 200) rfl rfl ?_
      refine z_ret rfl rfl ?_
      exact hK _ (by repeat (first | exact zCm_rf | assumption | refine zCm_u ?_ (by decide))) (zMs_in (a := (sp)) (b := (ru)) (s := (s + 1)) (e := ((-1))) (by first | (simp [zU, h10, h11, h12, h13]; done) | (simp [zU, h10, h11, h12, h13] <;> omega) | omega) (by first | (simp [zU, h10, h11, h12, h13]; done) | (simp [zU, h10, h11, h12, h13] <;> omega) | omega) (by first | (simp [zU, h10, h11, h12, h13]; done) | (simp [zU, h10, h11, h12, h13] <;> omega) | omega) (by first | (simp [zU, h10, h11, h12, h13]; done) | (simp [zU, h10, h11, h12, h13] <;> omega) | omega) (by omega) (by omega) (by omega) (by omega)) (fun h => by first | (exfalso; omega) | exact (by first | (simp [zU, h10, h11, h12, h13]; done) | (simp [zU, h10, h11, h12, h13] <;> omega) | omega)) (fun h h2 => by first | (exfalso; omega) | exact (by first | (simp [zU, h10, h11, h12, h13]; done) | (simp [zU, h10, h11, h12, h13] <;> omega) | omega))
set_option maxHeartbeats 8000000 in
theorem c_Composer_widthOfHyphen {L : Nat} {xs : Nat → Int32} {n sl : Nat} {T : Nat → zT} {I : Nat → Nat → Int} {P : Nat → Nat → Option Nat} {G : Nat → Nat → Int} {K : List zV → zH → Prop} {un en : Int} {fo : Nat} (hn : 90 ≤ n) (hC : ∀ a, 1 ≤ a → a ≤ 55 → T a = zFixC a) (hun : 0 ≤ un ∧ un ≤ 24) (hen : -1 ≤ en ∧ en ≤ 23) (hrd : P 9 6 = some 5) (hcf : P 9 7 = some fo) (tfo : T fo = (1, 3, [un])) (fol : fo ≤ n) (fo9 : 91 ≤ fo) (hu1 : 1 ≤ un) (h13 : I 9 13 = en) (heu : en < un) (hK : ∀ e, K [.inl e] (n, sl, T, I, P, G)) : zX zMd L xs 11 [.inr (.inl (some 9))] (n, sl, T, I, P, G) K := by
  have t9 : T 9 = (1, 0, [1]) := hC 9 (by decide) (by decide)
  refine z_inl ?_
  refine z_lv (lv2 := [(0, _)]) ⟨rfl, trivial⟩ ?_
  refine z_aload_n (pc2 := 1) rfl rfl rfl ?_
  refine z_getP (pc2 := 4) rfl rfl rfl rfl t9 ?_
  intro p1 p1e p1k
  clear p1k; replace p1e : p1 = some fo := by rw [p1e]; first | exact hcf | exact Eq.symm hcf | (simp [zU]; first | done | exact hcf | exact Eq.symm hcf | omega) | (refine Eq.trans (congrArg _ ?_) (Eq.symm hcf); omega)
  subst p1e
  refine z_aload_n (pc2 := 5) rfl rfl rfl ?_
  refine z_getI (pc2 := 8) 0 rfl rfl rfl rfl rfl t9 ?_
  intro v2 e2 r2 k2
  replace k2 : (-1 : Int) ≤ v2 ∧ v2 ≤ 23 := k2
  replace e2 : en = v2 := by rw [e2]; first | exact h13 | exact Eq.symm h13 | (simp [zU]; first | done | exact h13 | exact Eq.symm h13 | omega) | (refine Eq.trans (congrArg _ ?_) (Eq.symm h13); omega)
  subst e2
  refine z_iconst (pc2 := 9) rfl rfl ?_
  refine z_callV (y2 := 43) (as := [_, _]) (rest := []) (pc2 := 12) rfl rfl rfl rfl tfo rfl ?_
  refine c_Fount_kernOf hn hC (by omega) (by omega) (by omega) (by omega) tfo (by omega) (by omega) (fun w3 w3r => ?_)
  show zB _ _ _ _ _ _ [_] _ _
  refine z_aload_n (pc2 := 13) rfl rfl rfl ?_
  refine z_getP (pc2 := 16) rfl rfl rfl rfl t9 ?_
  intro p4 p4e p4k
  clear p4k; replace p4e : p4 = some fo := by rw [p4e]; first | exact hcf | exact Eq.symm hcf | (simp [zU]; first | done | exact hcf | exact Eq.symm hcf | omega) | (refine Eq.trans (congrArg _ ?_) (Eq.symm hcf); omega)
  subst p4e
  refine z_getP (pc2 := 19) rfl rfl rfl rfl tfo ?_
  intro p5 p5e p5k
  obtain ⟨q6, rfl, q69, tq6, -⟩ := p5k
  replace tq6 : _ = ((2, 0, [(un), 0]) : zT) := tq6
  refine zB_le tq6 trivial (fun q6l => ?_)
  refine z_iconst (pc2 := 20) rfl rfl ?_
  refine z_iald (pc2 := 21) rfl rfl tq6 (by omega) (by omega) (by omega) ?_
  intro v7 e7 r7 k7
  clear k7
  refine z_iadd (pc2 := 22) rfl rfl ?_
  refine z_iret rfl rfl ?_
  exact hK _
set_option maxHeartbeats 8000000 in
theorem c_Composer_badnessOf {L : Nat} {xs : Nat → Int32} {n sl : Nat} {T : Nat → zT} {I : Nat → Nat → Int} {P : Nat → Nat → Option Nat} {G : Nat → Nat → Int} {K : List zV → zH → Prop} {u z w un : Int} {fo : Nat} (hn : 90 ≤ n) (hC : ∀ a, 1 ≤ a → a ≤ 55 → T a = zFixC a) (hz : 0 ≤ z ∧ z ≤ 1) (hw : 0 ≤ w ∧ w ≤ 1) (hun : 0 ≤ un ∧ un ≤ 24) (hrd : P 9 6 = some 5) (hcf : P 9 7 = some fo) (tfo : T fo = (1, 3, [un])) (fol : fo ≤ n) (fo9 : 91 ≤ fo) (hK : ∀ e, K [.inl e] (n, sl, T, I, P, G)) : zX zMd L xs 14 [.inr (.inl (some 9)), .inl u, .inl z, .inl w] (n, sl, T, I, P, G) K := by
  have t9 : T 9 = (1, 0, [1]) := hC 9 (by decide) (by decide)
  refine z_inl ?_
  refine z_lv (lv2 := [(0, _), (1, _), (2, _), (3, _)]) ⟨rfl, rfl, rfl, rfl, trivial⟩ ?_
  refine z_aload_n (pc2 := 1) rfl rfl rfl ?_
  refine z_iload_n (pc2 := 2) rfl rfl rfl ?_
  refine z_callV (y2 := 13) (as := [_]) (rest := []) (pc2 := 5) rfl rfl rfl rfl t9 rfl ?_
  refine z_inl ?_
  refine z_lv (lv2 := [(0, _), (1, _)]) ⟨rfl, rfl, trivial⟩ ?_
  refine z_iload_n (pc2 := 1) rfl rfl rfl ?_
  refine z_aload_n (pc2 := 2) rfl rfl rfl ?_
  refine z_getP (pc2 := 5) rfl rfl rfl rfl t9 ?_
  intro p1 p1e p1k
  clear p1k; replace p1e : p1 = some fo := by rw [p1e]; first | exact hcf | exact Eq.symm hcf | (simp [zU]; first | done | exact hcf | exact Eq.symm hcf | omega) | (refine Eq.trans (congrArg _ ?_) (Eq.symm hcf); omega)
  subst p1e
  refine z_getI (pc2 := 8) 0 rfl rfl rfl rfl rfl tfo ?_
  intro v2 e2 r2 k2
  clear k2
  clear e2
  refine z_ineg (pc2 := 9) rfl rfl ?_
  refine z_aload_n (pc2 := 10) rfl rfl rfl ?_
  refine z_getI (pc2 := 13) 0 rfl rfl rfl rfl rfl t9 ?_
  intro v3 e3 r3 k3
  replace k3 : (0 : Int) ≤ v3 ∧ v3 ≤ 100 := k3
  refine z_imul (pc2 := 14) rfl rfl ?_
  refine z_icmp_any (t := 21) (pc2 := 17) rfl rfl rfl ?_ ?_
  ·
    refine z_iconst (pc2 := 22) rfl rfl ?_
    refine z_zret rfl rfl (by omega) ?_
    show zB _ _ _ _ _ _ [_] _ _
    refine z_if_ne (t := 13) (pc2 := 8) rfl rfl rfl (by omega) (fun c5 => by exfalso; omega) (fun c5 => ?_)
    refine z_ldc (10000000) (pc2 := 10) rfl rfl rfl ?_
    refine z_iload_n (pc2 := 11) rfl rfl rfl ?_
    refine z_isub (pc2 := 12) rfl rfl ?_
    refine z_iret rfl rfl ?_
    exact hK _
  ·
    refine z_iconst (pc2 := 18) rfl rfl ?_
    refine z_goto (pc2 := 22) rfl rfl ?_
    refine z_zret rfl rfl (by omega) ?_
    show zB _ _ _ _ _ _ [_] _ _
    refine z_if_ne (t := 13) (pc2 := 8) rfl rfl rfl (by omega) (fun c6 => ?_) (fun c6 => by exfalso; omega)
    refine z_iload_n (pc2 := 14) rfl rfl rfl ?_
    refine z_if_eq (t := 29) (pc2 := 17) rfl rfl rfl (by omega) (fun c7 => ?_) (fun c7 => ?_)
    ·
      refine z_iload_n (pc2 := 30) rfl rfl rfl ?_
      refine z_aload_n (pc2 := 31) rfl rfl rfl ?_
      refine z_getP (pc2 := 34) rfl rfl rfl rfl t9 ?_
      intro p8 p8e p8k
      clear p8k; replace p8e : p8 = some fo := by rw [p8e]; first | exact hcf | exact Eq.symm hcf | (simp [zU]; first | done | exact hcf | exact Eq.symm hcf | omega) | (refine Eq.trans (congrArg _ ?_) (Eq.symm hcf); omega)
      subst p8e
      refine z_getI (pc2 := 37) 0 rfl rfl rfl rfl rfl tfo ?_
      intro v9 e9 r9 k9
      clear k9
      clear e9
      refine z_aload_n (pc2 := 38) rfl rfl rfl ?_
      refine z_callV (y2 := 12) (as := []) (rest := [_, _]) (pc2 := 41) rfl rfl rfl rfl t9 rfl ?_
      refine z_inl ?_
      refine z_lv (lv2 := [(0, _)]) ⟨rfl, trivial⟩ ?_
      refine z_aload_n (pc2 := 1) rfl rfl rfl ?_
      refine z_getI (pc2 := 4) 0 rfl rfl rfl rfl rfl t9 ?_
      intro v10 e10 r10 k10
      replace k10 : (0 : Int) ≤ v10 ∧ v10 ≤ 100 := k10
      replace e10 : v3 = v10 := by rw [e10]; first | exact e3 | exact Eq.symm e3 | (simp [zU]; first | done | exact e3 | exact Eq.symm e3 | omega) | (refine Eq.trans (congrArg _ ?_) (Eq.symm e3); omega)
      subst e10
      refine z_iconst (pc2 := 5) rfl rfl ?_
      refine z_aload_n (pc2 := 6) rfl rfl rfl ?_
      refine z_getI (pc2 := 9) 0 rfl rfl rfl rfl rfl t9 ?_
      intro v11 e11 r11 k11
      replace k11 : (0 : Int) ≤ v11 ∧ v11 ≤ 100 := k11
      refine z_imul (pc2 := 10) rfl rfl ?_
      refine z_iadd (pc2 := 11) rfl rfl ?_
      refine z_iret rfl rfl ?_
      show zB _ _ _ _ _ _ [_, _, _] _ _
      refine z_imul (pc2 := 42) rfl rfl ?_
      refine z_icmp_any (t := 51) (pc2 := 45) rfl rfl rfl ?_ ?_
      ·
        refine z_iconst (pc2 := 52) rfl rfl ?_
        refine z_istore (lv2 := [(4, _), (0, _), (1, _), (2, _), (3, _)]) (pc2 := 54) rfl rfl rfl rfl ?_
        refine z_iload_n (pc2 := 55) rfl rfl rfl ?_
        refine z_iload_n (pc2 := 56) rfl rfl rfl ?_
        refine z_imul (pc2 := 57) rfl rfl ?_
        refine z_iload (pc2 := 59) rfl rfl rfl ?_
        refine z_iadd (pc2 := 60) rfl rfl ?_
        refine z_iload_n (pc2 := 61) rfl rfl rfl ?_
        refine z_if_eq (t := 69) (pc2 := 64) rfl rfl rfl (by omega) (fun c14 => ?_) (fun c14 => ?_)
        ·
          refine z_iconst (pc2 := 70) rfl rfl ?_
          refine z_iadd (pc2 := 71) rfl rfl ?_
          refine z_iret rfl rfl ?_
          exact hK _
        ·
          refine z_bipush (pc2 := 66) rfl rfl (by decide) ?_
          refine z_goto (pc2 := 70) rfl rfl ?_
          refine z_iadd (pc2 := 71) rfl rfl ?_
          refine z_iret rfl rfl ?_
          exact hK _
      ·
        refine z_sipush (pc2 := 48) rfl rfl (by decide) ?_
        refine z_goto (pc2 := 52) rfl rfl ?_
        refine z_istore (lv2 := [(4, _), (0, _), (1, _), (2, _), (3, _)]) (pc2 := 54) rfl rfl rfl rfl ?_
        refine z_iload_n (pc2 := 55) rfl rfl rfl ?_
        refine z_iload_n (pc2 := 56) rfl rfl rfl ?_
        refine z_imul (pc2 := 57) rfl rfl ?_
        refine z_iload (pc2 := 59) rfl rfl rfl ?_
        refine z_iadd (pc2 := 60) rfl rfl ?_
        refine z_iload_n (pc2 := 61) rfl rfl rfl ?_
        refine z_if_eq (t := 69) (pc2 := 64) rfl rfl rfl (by omega) (fun c16 => ?_) (fun c16 => ?_)
        ·
          refine z_iconst (pc2 := 70) rfl rfl ?_
          refine z_iadd (pc2 := 71) rfl rfl ?_
          refine z_iret rfl rfl ?_
          exact hK _
        ·
          refine z_bipush (pc2 := 66) rfl rfl (by decide) ?_
          refine z_goto (pc2 := 70) rfl rfl ?_
          refine z_iadd (pc2 := 71) rfl rfl ?_
          refine z_iret rfl rfl ?_
          exact hK _
    ·
      refine z_iload_n (pc2 := 18) rfl rfl rfl ?_
      refine z_if_any (t := 27) (pc2 := 21) rfl rfl rfl ?_ ?_
      ·
        refine z_iconst (pc2 := 28) rfl rfl ?_
        refine z_iret rfl rfl ?_
        exact hK _
      ·
        refine z_iload_n (pc2 := 22) rfl rfl rfl ?_
        refine z_iload_n (pc2 := 23) rfl rfl rfl ?_
        refine z_imul (pc2 := 24) rfl rfl ?_
        refine z_goto (pc2 := 28) rfl rfl ?_
        refine z_iret rfl rfl ?_
        exact hK _
set_option maxHeartbeats 8000000 in
theorem c_Reading_mayBreakBehind {L : Nat} {xs : Nat → Int32} {n sl : Nat} {T : Nat → zT} {I : Nat → Nat → Int} {P : Nat → Nat → Option Nat} {G : Nat → Nat → Int} {K : List zV → zH → Prop} {k c : Int} (hn : 90 ≤ n) (hC : ∀ a, 1 ≤ a → a ≤ 55 → T a = zFixC a) (hk : 0 ≤ k ∧ k ≤ 39) (hc : 0 ≤ c ∧ c ≤ 40) (hc5 : I 5 3 = c) (hK : ∀ e, (0 ≤ e ∧ e ≤ 1) → (e = 1 → k < c - 1 ∧ (I 6 k.toNat = 2 ∨ I 6 k.toNat = 6)) → (e = 0 → k < c - 1 → ¬ (I 6 k.toNat = 2 ∨ I 6 k.toNat = 6)) → K [.inl e] (n, sl, T, I, P, G)) : zX zMd L xs 73 [.inr (.inl (some 5)), .inl k] (n, sl, T, I, P, G) K := by
  have t5 : T 5 = (1, 7, [1]) := hC 5 (by decide) (by decide)
  have t6 : T 6 = (2, 0, [40, 20]) := hC 6 (by decide) (by decide)
  refine z_inl ?_
  refine z_lv (lv2 := [(0, _), (1, _)]) ⟨rfl, rfl, trivial⟩ ?_
  refine z_iload_n (pc2 := 1) rfl rfl rfl ?_
  refine z_aload_n (pc2 := 2) rfl rfl rfl ?_
  refine z_getI (pc2 := 5) 0 rfl rfl rfl rfl rfl t5 ?_
  intro v1 e1 r1 k1
  replace k1 : (0 : Int) ≤ v1 ∧ v1 ≤ 40 := k1
  replace e1 : c = v1 := by rw [e1]; first | exact hc5 | exact Eq.symm hc5 | (simp [zU]; first | done | exact hc5 | exact Eq.symm hc5 | omega) | (refine Eq.trans (congrArg _ ?_) (Eq.symm hc5); omega)
  subst e1
  refine z_iconst (pc2 := 6) rfl rfl ?_
  refine z_isub (pc2 := 7) rfl rfl ?_
  refine z_icmp_ge (t := 35) (pc2 := 10) rfl rfl rfl (by omega) (by omega) (fun c2 => ?_) (fun c2 => ?_)
  ·
    refine z_iconst (pc2 := 36) rfl rfl ?_
    refine z_zret rfl rfl (by omega) ?_
    exact hK _ (by omega) (by omega) (by omega)
  ·
    refine z_aload_n (pc2 := 11) rfl rfl rfl ?_
    refine z_getP (pc2 := 14) rfl rfl rfl rfl t5 ?_
    intro p3 p3e p3k
    replace p3k : p3 = some 6 := p3k; clear p3e; subst p3k
    refine z_iload_n (pc2 := 15) rfl rfl rfl ?_
    refine z_iald (pc2 := 16) rfl rfl t6 (by omega) (by omega) (by omega) ?_
    intro v4 e4 r4 k4
    replace k4 : (0 : Int) ≤ v4 ∧ v4 ≤ 7 := k4
    refine z_iconst (pc2 := 17) rfl rfl ?_
    refine z_icmp_eq (t := 31) (pc2 := 20) rfl rfl rfl (by omega) (by omega) (fun c5 => ?_) (fun c5 => ?_)
    ·
      refine z_iconst (pc2 := 32) rfl rfl ?_
      refine z_goto (pc2 := 36) rfl rfl ?_
      refine z_zret rfl rfl (by omega) ?_
      exact hK _ (by omega) (by omega) (by omega)
    ·
      refine z_aload_n (pc2 := 21) rfl rfl rfl ?_
      refine z_getP (pc2 := 24) rfl rfl rfl rfl t5 ?_
      intro p6 p6e p6k
      replace p6k : p6 = some 6 := p6k; clear p6e; subst p6k
      refine z_iload_n (pc2 := 25) rfl rfl rfl ?_
      refine z_iald (pc2 := 26) rfl rfl t6 (by omega) (by omega) (by omega) ?_
      intro v7 e7 r7 k7
      replace k7 : (0 : Int) ≤ v7 ∧ v7 ≤ 7 := k7
      replace e7 : v4 = v7 := by rw [e7]; first | exact e4 | exact Eq.symm e4 | (simp [zU]; first | done | exact e4 | exact Eq.symm e4 | omega) | (refine Eq.trans (congrArg _ ?_) (Eq.symm e4); omega)
      subst e7
      refine z_bipush (pc2 := 28) rfl rfl (by decide) ?_
      refine z_icmp_ne (t := 35) (pc2 := 31) rfl rfl rfl (by omega) (by omega) (fun c8 => ?_) (fun c8 => ?_)
      ·
        refine z_iconst (pc2 := 36) rfl rfl ?_
        refine z_zret rfl rfl (by omega) ?_
        exact hK _ (by omega) (by omega) (by omega)
      ·
        refine z_iconst (pc2 := 32) rfl rfl ?_
        refine z_goto (pc2 := 36) rfl rfl ?_
        refine z_zret rfl rfl (by omega) ?_
        exact hK _ (by omega) (by omega) (by omega)
