/-! the reference: what many of its methods call -/
set_option maxHeartbeats 8000000 in
theorem m_in {L : Nat} {xs : Nat → Int32} {n sl : Nat} {T : Nat → zT} {I : Nat → Nat → Int} {P : Nat → Nat → Option Nat} {G : Nat → Nat → Int} {K : List zV → zH → Prop} {v lo hi : Int}  (hv : zR2 v) (hlo : zR2 lo) (hhi : zR2 hi) (hK : ∀ e, (e = 0 ∨ e = 1) → (e = 1 → lo ≤ v ∧ v ≤ hi) → (e = 0 → v < lo ∨ hi < v) → K [.inl e] (n, sl, T, I, P, G)) : zX zMd L xs 157 [.inr (.inr v), .inr (.inr lo), .inr (.inr hi)] (n, sl, T, I, P, G) K := by
  refine z_inl ?_
  refine z_lv (lv2 := [(0, _), (2, _), (4, _)]) ⟨rfl, rfl, rfl, trivial⟩ ?_
  refine z_lload_n (pc2 := 1) rfl rfl rfl ?_
  refine z_lload_n (pc2 := 2) rfl rfl rfl ?_
  refine z_lcmp (pc2 := 3) rfl rfl (by omega) (by omega) (fun c1 c1a c1b c1c => ?_)
  refine z_if_lt (t := 17) (pc2 := 6) rfl rfl rfl (by omega) (fun c2 => ?_) (fun c2 => ?_)
  ·
    refine z_iconst (pc2 := 18) rfl rfl ?_
    refine z_zret rfl rfl (by omega) ?_
    exact hK _ (by omega) (by omega) (by omega)
  ·
    refine z_lload_n (pc2 := 7) rfl rfl rfl ?_
    refine z_lload (pc2 := 9) rfl rfl rfl ?_
    refine z_lcmp (pc2 := 10) rfl rfl (by omega) (by omega) (fun c3 c3a c3b c3c => ?_)
    refine z_if_gt (t := 17) (pc2 := 13) rfl rfl rfl (by omega) (fun c4 => ?_) (fun c4 => ?_)
    ·
      refine z_iconst (pc2 := 18) rfl rfl ?_
      refine z_zret rfl rfl (by omega) ?_
      exact hK _ (by omega) (by omega) (by omega)
    ·
      refine z_iconst (pc2 := 14) rfl rfl ?_
      refine z_goto (pc2 := 18) rfl rfl ?_
      refine z_zret rfl rfl (by omega) ?_
      exact hK _ (by omega) (by omega) (by omega)
set_option maxHeartbeats 8000000 in
theorem l_outOf {L : Nat} {xs : Nat → Int32} {n sl : Nat} {T : Nat → zT} {I : Nat → Nat → Int} {P : Nat → Nat → Option Nat} {G : Nat → Nat → Int} {K : List zV → zH → Prop} {f : Int} (hT : ∀ a, 56 ≤ a → a ≤ 90 → T a = zFix a) (hf : 0 ≤ f ∧ f ≤ 3) (hK : ∀ e, K [.inl e] (n, sl, T, I, P, G)) (m : Nat) : ∀ (s k : Int), 0 ≤ k ∧ k ≤ 36 → (36 - k).toNat < m → zB zMd L xs 186 13 [(0, .inr (.inl (some 56))), (1, .inl f), (2, .inl s), (3, .inl k)] [] (n, sl, T, I, P, G) K := by
  have t56 : T 56 = (1, 12, [1]) := hT 56 (by decide) (by decide)
  have t57 : T 57 = (2, 0, [112200, 1]) := hT 57 (by decide) (by decide)
  induction m with
  | zero => intro s k hk hm; omega
  | succ m ih =>
    intro s k hk hm
    refine z_iload_n (pc2 := 14) rfl rfl rfl ?_
    refine z_bipush (pc2 := 16) rfl rfl (by decide) ?_
    refine z_icmp_ge (t := 44) (pc2 := 19) rfl rfl rfl (by omega) (by omega) (fun c1 => ?_) (fun c1 => ?_)
    ·
      refine z_iload_n (pc2 := 45) rfl rfl rfl ?_
      refine z_iret rfl rfl ?_
      exact hK _
    ·
      refine z_iload_n (pc2 := 20) rfl rfl rfl ?_
      refine z_aload_n (pc2 := 21) rfl rfl rfl ?_
      refine z_getP (pc2 := 24) rfl rfl rfl rfl t56 ?_
      intro p2 p2e p2k; replace p2k : p2 = some 57 := p2k; clear p2e; subst p2k
      refine z_aload_n (pc2 := 25) rfl rfl rfl ?_
      refine z_callV (y2 := 162) (as := []) (rest := [_, _]) (pc2 := 28) rfl rfl rfl rfl t56 rfl ?_
      refine z_inl ?_
      refine z_lv (lv2 := [(0, _)]) ⟨rfl, trivial⟩ ?_
      refine z_ldc (56100) (pc2 := 2) rfl rfl rfl ?_
      refine z_aload_n (pc2 := 3) rfl rfl rfl ?_
      refine z_getI (pc2 := 6) 0 rfl rfl rfl rfl rfl t56 ?_
      intro v3 e3 r3 k3
      clear e3
      replace k3 : (0 : Int) ≤ v3 ∧ v3 ≤ 1 := k3; clear r3
      refine z_imul (pc2 := 7) rfl rfl ?_
      refine z_iret rfl rfl ?_
      show zB _ _ _ _ _ _ [_, _, _] _ _
      refine z_bipush (pc2 := 30) rfl rfl (by decide) ?_
      refine z_iload_n (pc2 := 31) rfl rfl rfl ?_
      refine z_imul (pc2 := 32) rfl rfl ?_
      refine z_iadd (pc2 := 33) rfl rfl ?_
      refine z_iload_n (pc2 := 34) rfl rfl rfl ?_
      refine z_iadd (pc2 := 35) rfl rfl ?_
      refine z_iald (pc2 := 36) rfl rfl t57 (by omega) (by omega) (by decide) ?_
      intro v4 e4 r4 k4
      clear e4
      clear k4
      refine z_isub (pc2 := 37) rfl rfl ?_
      refine z_istore_n (lv2 := [(2, _), (0, _), (1, _), (3, _)]) (pc2 := 38) rfl rfl rfl rfl ?_
      refine z_iinc (lv2 := [(3, _), (2, _), (0, _), (1, _)]) (pc2 := 41) rfl rfl rfl rfl rfl ?_
      refine z_goto (pc2 := 13) rfl rfl ?_
      refine z_lv (lv2 := [(0, _), (1, _), (2, _), (3, _)]) ⟨rfl, rfl, rfl, rfl, trivial⟩ ?_
      exact ih _ _ (by omega) (by omega)
set_option maxHeartbeats 8000000 in
theorem m_outOf {L : Nat} {xs : Nat → Int32} {n sl : Nat} {T : Nat → zT} {I : Nat → Nat → Int} {P : Nat → Nat → Option Nat} {G : Nat → Nat → Int} {K : List zV → zH → Prop} {f : Int} (hT : ∀ a, 56 ≤ a → a ≤ 90 → T a = zFix a) (hf : 0 ≤ f ∧ f ≤ 3) (hK : ∀ e, K [.inl e] (n, sl, T, I, P, G)) : zX zMd L xs 186 [.inr (.inl (some 56)), .inl f] (n, sl, T, I, P, G) K := by
  have t56 : T 56 = (1, 12, [1]) := hT 56 (by decide) (by decide)
  have t75 : T 75 = (2, 0, [8, 0]) := hT 75 (by decide) (by decide)
  refine z_inl ?_
  refine z_lv (lv2 := [(0, _), (1, _)]) ⟨rfl, rfl, trivial⟩ ?_
  refine z_aload_n (pc2 := 1) rfl rfl rfl ?_
  refine z_getP (pc2 := 4) rfl rfl rfl rfl t56 ?_
  intro p1 p1e p1k; replace p1k : p1 = some 75 := p1k; clear p1e; subst p1k
  refine z_aload_n (pc2 := 5) rfl rfl rfl ?_
  refine z_iload_n (pc2 := 6) rfl rfl rfl ?_
  refine z_callV (y2 := 163) (as := [_]) (rest := [_]) (pc2 := 9) rfl rfl rfl rfl t56 rfl ?_
  refine z_inl ?_
  refine z_lv (lv2 := [(0, _), (1, _)]) ⟨rfl, rfl, trivial⟩ ?_
  refine z_iconst (pc2 := 1) rfl rfl ?_
  refine z_aload_n (pc2 := 2) rfl rfl rfl ?_
  refine z_getI (pc2 := 5) 0 rfl rfl rfl rfl rfl t56 ?_
  intro v2 e2 r2 k2
  clear e2
  replace k2 : (0 : Int) ≤ v2 ∧ v2 ≤ 1 := k2; clear r2
  refine z_imul (pc2 := 6) rfl rfl ?_
  refine z_iload_n (pc2 := 7) rfl rfl rfl ?_
  refine z_iadd (pc2 := 8) rfl rfl ?_
  refine z_iret rfl rfl ?_
  show zB _ _ _ _ _ _ [_, _] _ _
  refine z_iald (pc2 := 10) rfl rfl t75 (by omega) (by omega) (by decide) ?_
  intro v3 e3 r3 k3
  clear e3
  clear k3
  refine z_istore_n (lv2 := [(2, _), (0, _), (1, _)]) (pc2 := 11) rfl rfl rfl rfl ?_
  refine z_iconst (pc2 := 12) rfl rfl ?_
  refine z_istore_n (lv2 := [(3, _), (2, _), (0, _), (1, _)]) (pc2 := 13) rfl rfl rfl rfl ?_
  refine z_lv (lv2 := [(0, _), (1, _), (2, _), (3, _)]) ⟨rfl, rfl, rfl, rfl, trivial⟩ ?_
  exact l_outOf hT hf hK _ _ _ (by omega)   (Nat.lt_succ_self _)
set_option maxHeartbeats 8000000 in
theorem m_bars {L : Nat} {xs : Nat → Int32} {n sl : Nat} {T : Nat → zT} {I : Nat → Nat → Int} {P : Nat → Nat → Option Nat} {G : Nat → Nat → Int} {K : List zV → zH → Prop} {a : Int} (hT : ∀ a, 56 ≤ a → a ≤ 90 → T a = zFix a) (ha : 0 ≤ a ∧ a ≤ 3) (hK : ∀ e I2 G2, zFr I I2 → K [.inl e] (n, sl, T, I2, P, G2)) : zX zMd L xs 197 [.inr (.inl (some 56)), .inl a] (n, sl, T, I, P, G) K := by
  have t56 : T 56 = (1, 12, [1]) := hT 56 (by decide) (by decide)
  have t61 : T 61 = (2, 0, [8, 2]) := hT 61 (by decide) (by decide)
  refine z_inl ?_
  refine z_lv (lv2 := [(0, _), (1, _)]) ⟨rfl, rfl, trivial⟩ ?_
  refine z_aload_n (pc2 := 1) rfl rfl rfl ?_
  refine z_iload_n (pc2 := 2) rfl rfl rfl ?_
  refine z_callV (y2 := 186) (as := [_]) (rest := []) (pc2 := 5) rfl rfl rfl rfl t56 rfl ?_
  refine m_outOf hT (by omega) (fun w1 => ?_)
  show zB _ _ _ _ _ _ [_] _ _
  refine z_if_any (t := 15) (pc2 := 8) rfl rfl rfl ?_ ?_
  ·
    refine z_aload_n (pc2 := 16) rfl rfl rfl ?_
    refine z_callV (y2 := 161) (as := []) (rest := []) (pc2 := 19) rfl rfl rfl rfl t56 rfl ?_
    refine z_inl ?_
    refine z_lv (lv2 := [(0, _)]) ⟨rfl, trivial⟩ ?_
    refine z_aload_n (pc2 := 1) rfl rfl rfl ?_
    refine z_getI (pc2 := 4) 0 rfl rfl rfl rfl rfl t56 ?_
    intro v2 e2 r2 k2
    clear e2
    clear k2
    refine z_sipush (pc2 := 7) rfl rfl (by decide) ?_
    refine z_icmp_lt (t := 14) (pc2 := 10) rfl rfl rfl (by omega) (by omega) (fun c3 => ?_) (fun c3 => ?_)
    ·
      refine z_iconst (pc2 := 15) rfl rfl ?_
      refine z_zret rfl rfl (by omega) ?_
      show zB _ _ _ _ _ _ [_] _ _
      refine z_if_eq (t := 29) (pc2 := 22) rfl rfl rfl (by omega) (fun c4 => ?_) (fun c4 => by exfalso; omega)
      refine z_aload_n (pc2 := 30) rfl rfl rfl ?_
      refine z_getP (pc2 := 33) rfl rfl rfl rfl t56 ?_
      intro p5 p5e p5k; replace p5k : p5 = some 61 := p5k; clear p5e; subst p5k
      refine z_aload_n (pc2 := 34) rfl rfl rfl ?_
      refine z_iload_n (pc2 := 35) rfl rfl rfl ?_
      refine z_callV (y2 := 163) (as := [_]) (rest := [_]) (pc2 := 38) rfl rfl rfl rfl t56 rfl ?_
      refine z_inl ?_
      refine z_lv (lv2 := [(0, _), (1, _)]) ⟨rfl, rfl, trivial⟩ ?_
      refine z_iconst (pc2 := 1) rfl rfl ?_
      refine z_aload_n (pc2 := 2) rfl rfl rfl ?_
      refine z_getI (pc2 := 5) 0 rfl rfl rfl rfl rfl t56 ?_
      intro v6 e6 r6 k6
      clear e6
      replace k6 : (0 : Int) ≤ v6 ∧ v6 ≤ 1 := k6; clear r6
      refine z_imul (pc2 := 6) rfl rfl ?_
      refine z_iload_n (pc2 := 7) rfl rfl rfl ?_
      refine z_iadd (pc2 := 8) rfl rfl ?_
      refine z_iret rfl rfl ?_
      show zB _ _ _ _ _ _ [_, _] _ _
      refine z_iald (pc2 := 39) rfl rfl t61 (by omega) (by omega) (by decide) ?_
      intro v7 e7 r7 k7
      clear e7
      replace k7 : (-1 : Int) ≤ v7 ∧ v7 ≤ 24 := k7; clear r7
      refine z_if_ge (t := 50) (pc2 := 42) rfl rfl rfl (by omega) (fun c8 => ?_) (fun c8 => ?_)
      ·
        refine z_iconst (pc2 := 51) rfl rfl ?_
        refine z_iret rfl rfl ?_
        exact hK _ _ _ (by repeat (first | exact zFr_rf _ | assumption | refine zFr_a ?_ (by decide) | refine zFr_f ?_ (by decide) | refine zFr_n ?_ (by omega) | refine zFr_h ?_ (by omega) | refine zFr_tok ?_ (by omega)))
      ·
        refine z_aload_n (pc2 := 43) rfl rfl rfl ?_
        refine z_iconst (pc2 := 44) rfl rfl ?_
        refine z_callV (y2 := 160) (as := [_]) (rest := []) (pc2 := 47) rfl rfl rfl rfl t56 rfl ?_
        refine z_inl ?_
        refine z_lv (lv2 := [(0, _), (1, _)]) ⟨rfl, rfl, trivial⟩ ?_
        refine z_aload_n (pc2 := 1) rfl rfl rfl ?_
        refine z_dup (pc2 := 2) rfl rfl rfl ?_
        refine z_getI (pc2 := 5) 0 rfl rfl rfl rfl rfl t56 ?_
        intro v9 e9 r9 k9
        clear e9
        clear k9
        refine z_iconst (pc2 := 6) rfl rfl ?_
        refine z_iadd (pc2 := 7) rfl rfl ?_
        refine z_putI_any (pc2 := 10) rfl rfl rfl rfl rfl rfl t56 (fun _ _ => True.intro) (fun u10 u10r => ?_); clear u10r
        refine z_aload_n (pc2 := 11) rfl rfl rfl ?_
        refine z_bipush (pc2 := 13) rfl rfl (by decide) ?_
        refine z_iload_n (pc2 := 14) rfl rfl rfl ?_
        refine z_isub (pc2 := 15) rfl rfl ?_
        refine z_putI (pc2 := 18) rfl rfl rfl rfl rfl rfl t56 (by omega) True.intro ?_
        refine z_aload_n (pc2 := 19) rfl rfl rfl ?_
        refine z_getI (pc2 := 22) 0 rfl rfl rfl rfl rfl t56 ?_
        intro v11 e11 r11 k11
        clear e11
        clear k11
        refine z_iret rfl rfl ?_
        show zB _ _ _ _ _ _ [_] _ _
        refine z_goto (pc2 := 51) rfl rfl ?_
        refine z_iret rfl rfl ?_
        exact hK _ _ _ (by repeat (first | exact zFr_rf _ | assumption | refine zFr_a ?_ (by decide) | refine zFr_f ?_ (by decide) | refine zFr_n ?_ (by omega) | refine zFr_h ?_ (by omega) | refine zFr_tok ?_ (by omega)))
    ·
      refine z_iconst (pc2 := 11) rfl rfl ?_
      refine z_goto (pc2 := 15) rfl rfl ?_
      refine z_zret rfl rfl (by omega) ?_
      show zB _ _ _ _ _ _ [_] _ _
      refine z_if_eq (t := 29) (pc2 := 22) rfl rfl rfl (by omega) (fun c12 => by exfalso; omega) (fun c12 => ?_)
      refine z_aload_n (pc2 := 23) rfl rfl rfl ?_
      refine z_bipush (pc2 := 25) rfl rfl (by decide) ?_
      refine z_callV (y2 := 159) (as := [_]) (rest := []) (pc2 := 28) rfl rfl rfl rfl t56 rfl ?_
      refine z_inl ?_
      refine z_lv (lv2 := [(0, _), (1, _)]) ⟨rfl, rfl, trivial⟩ ?_
      refine z_aload_n (pc2 := 1) rfl rfl rfl ?_
      refine z_iload_n (pc2 := 2) rfl rfl rfl ?_
      refine z_putI (pc2 := 5) rfl rfl rfl rfl rfl rfl t56 (by omega) True.intro ?_
      refine z_iload_n (pc2 := 6) rfl rfl rfl ?_
      refine z_iret rfl rfl ?_
      show zB _ _ _ _ _ _ [_] _ _
      refine z_iret rfl rfl ?_
      exact hK _ _ _ (by repeat (first | exact zFr_rf _ | assumption | refine zFr_a ?_ (by decide) | refine zFr_f ?_ (by decide) | refine zFr_n ?_ (by omega) | refine zFr_h ?_ (by omega) | refine zFr_tok ?_ (by omega)))
  ·
    refine z_aload_n (pc2 := 9) rfl rfl rfl ?_
    refine z_bipush (pc2 := 11) rfl rfl (by decide) ?_
    refine z_callV (y2 := 159) (as := [_]) (rest := []) (pc2 := 14) rfl rfl rfl rfl t56 rfl ?_
    refine z_inl ?_
    refine z_lv (lv2 := [(0, _), (1, _)]) ⟨rfl, rfl, trivial⟩ ?_
    refine z_aload_n (pc2 := 1) rfl rfl rfl ?_
    refine z_iload_n (pc2 := 2) rfl rfl rfl ?_
    refine z_putI (pc2 := 5) rfl rfl rfl rfl rfl rfl t56 (by omega) True.intro ?_
    refine z_iload_n (pc2 := 6) rfl rfl rfl ?_
    refine z_iret rfl rfl ?_
    show zB _ _ _ _ _ _ [_] _ _
    refine z_iret rfl rfl ?_
    exact hK _ _ _ (by repeat (first | exact zFr_rf _ | assumption | refine zFr_a ?_ (by decide) | refine zFr_f ?_ (by decide) | refine zFr_n ?_ (by omega) | refine zFr_h ?_ (by omega) | refine zFr_tok ?_ (by omega)))
set_option maxHeartbeats 8000000 in
theorem m_lacksBox {L : Nat} {xs : Nat → Int32} {n sl : Nat} {T : Nat → zT} {I : Nat → Nat → Int} {P : Nat → Nat → Option Nat} {G : Nat → Nat → Int} {K : List zV → zH → Prop} {f k c : Int} (hT : ∀ a, 56 ≤ a → a ≤ 90 → T a = zFix a) (hf : 0 ≤ f ∧ f ≤ 3) (hk : 0 ≤ k ∧ k ≤ 4) (hc : zR c) (hK : ∀ e, (0 ≤ e ∧ e ≤ 2) → (e = 0 → (k = 0 → 0 ≤ c ∧ c ≤ 23) ∧ (k = 1 → 0 ≤ c ∧ c ≤ 5) ∧ (k = 4 → 0 ≤ c ∧ c ≤ 3)) → K [.inl e] (n, sl, T, I, P, G)) : zX zMd L xs 205 [.inr (.inl (some 56)), .inl f, .inl k, .inl c] (n, sl, T, I, P, G) K := by
  have t56 : T 56 = (1, 12, [1]) := hT 56 (by decide) (by decide)
  have t61 : T 61 = (2, 0, [8, 2]) := hT 61 (by decide) (by decide)
  have t65 : T 65 = (2, 0, [8, 3]) := hT 65 (by decide) (by decide)
  refine z_inl ?_
  refine z_lv (lv2 := [(0, _), (1, _), (2, _), (3, _)]) ⟨rfl, rfl, rfl, rfl, trivial⟩ ?_
  refine z_aload_n (pc2 := 1) rfl rfl rfl ?_
  refine z_iload_n (pc2 := 2) rfl rfl rfl ?_
  refine z_callV (y2 := 163) (as := [_]) (rest := []) (pc2 := 5) rfl rfl rfl rfl t56 rfl ?_
  refine z_inl ?_
  refine z_lv (lv2 := [(0, _), (1, _)]) ⟨rfl, rfl, trivial⟩ ?_
  refine z_iconst (pc2 := 1) rfl rfl ?_
  refine z_aload_n (pc2 := 2) rfl rfl rfl ?_
  refine z_getI (pc2 := 5) 0 rfl rfl rfl rfl rfl t56 ?_
  intro v1 e1 r1 k1
  clear e1
  replace k1 : (0 : Int) ≤ v1 ∧ v1 ≤ 1 := k1; clear r1
  refine z_imul (pc2 := 6) rfl rfl ?_
  refine z_iload_n (pc2 := 7) rfl rfl rfl ?_
  refine z_iadd (pc2 := 8) rfl rfl ?_
  refine z_iret rfl rfl ?_
  show zB _ _ _ _ _ _ [_] _ _
  refine z_istore (lv2 := [(4, _), (0, _), (1, _), (2, _), (3, _)]) (pc2 := 7) rfl rfl rfl rfl ?_
  refine z_aload_n (pc2 := 8) rfl rfl rfl ?_
  refine z_getP (pc2 := 11) rfl rfl rfl rfl t56 ?_
  intro p2 p2e p2k; replace p2k : p2 = some 61 := p2k; clear p2e; subst p2k
  refine z_iload (pc2 := 13) rfl rfl rfl ?_
  refine z_iald (pc2 := 14) rfl rfl t61 (by omega) (by omega) (by decide) ?_
  intro v3 e3 r3 k3
  clear e3
  replace k3 : (-1 : Int) ≤ v3 ∧ v3 ≤ 24 := k3; clear r3
  refine z_if_ge (t := 19) (pc2 := 17) rfl rfl rfl (by omega) (fun c4 => ?_) (fun c4 => ?_)
  ·
    refine z_iload_n (pc2 := 20) rfl rfl rfl ?_
    refine z_if_ne (t := 33) (pc2 := 23) rfl rfl rfl (by omega) (fun c5 => ?_) (fun c5 => ?_)
    ·
      refine z_iload_n (pc2 := 34) rfl rfl rfl ?_
      refine z_iconst (pc2 := 35) rfl rfl ?_
      refine z_icmp_ne (t := 48) (pc2 := 38) rfl rfl rfl (by omega) (by omega) (fun c6 => ?_) (fun c6 => ?_)
      ·
        refine z_iload_n (pc2 := 49) rfl rfl rfl ?_
        refine z_iconst (pc2 := 50) rfl rfl ?_
        refine z_icmp_ne (t := 57) (pc2 := 53) rfl rfl rfl (by omega) (by omega) (fun c7 => ?_) (fun c7 => ?_)
        ·
          refine z_iconst (pc2 := 58) rfl rfl ?_
          refine z_istore (lv2 := [(5, _), (4, _), (0, _), (1, _), (2, _), (3, _)]) (pc2 := 60) rfl rfl rfl rfl ?_
          refine z_iload_n (pc2 := 61) rfl rfl rfl ?_
          refine z_iconst (pc2 := 62) rfl rfl ?_
          refine z_icmp_eq (t := 84) (pc2 := 65) rfl rfl rfl (by omega) (by omega) (fun c8 => ?_) (fun c8 => ?_)
          ·
            refine z_iconst (pc2 := 85) rfl rfl ?_
            refine z_goto (pc2 := 89) rfl rfl ?_
            refine z_iret rfl rfl ?_
            exact hK _ (by omega) (by omega)
          ·
            refine z_iload_n (pc2 := 66) rfl rfl rfl ?_
            refine z_iconst (pc2 := 67) rfl rfl ?_
            refine z_icmp_eq (t := 84) (pc2 := 70) rfl rfl rfl (by omega) (by omega) (fun c9 => ?_) (fun c9 => by exfalso; omega)
            refine z_iconst (pc2 := 85) rfl rfl ?_
            refine z_goto (pc2 := 89) rfl rfl ?_
            refine z_iret rfl rfl ?_
            exact hK _ (by omega) (by omega)
        ·
          refine z_iconst (pc2 := 54) rfl rfl ?_
          refine z_goto (pc2 := 58) rfl rfl ?_
          refine z_istore (lv2 := [(5, _), (4, _), (0, _), (1, _), (2, _), (3, _)]) (pc2 := 60) rfl rfl rfl rfl ?_
          refine z_iload_n (pc2 := 61) rfl rfl rfl ?_
          refine z_iconst (pc2 := 62) rfl rfl ?_
          refine z_icmp_eq (t := 84) (pc2 := 65) rfl rfl rfl (by omega) (by omega) (fun c10 => by exfalso; omega) (fun c10 => ?_)
          refine z_iload_n (pc2 := 66) rfl rfl rfl ?_
          refine z_iconst (pc2 := 67) rfl rfl ?_
          refine z_icmp_eq (t := 84) (pc2 := 70) rfl rfl rfl (by omega) (by omega) (fun c11 => by exfalso; omega) (fun c11 => ?_)
          refine z_iload_n (pc2 := 71) rfl rfl rfl ?_
          refine z_i2l (pc2 := 72) rfl rfl (by omega) ?_
          refine z_lconst 0 (pc2 := 73) rfl rfl rfl ?_
          refine z_iload (pc2 := 75) rfl rfl rfl ?_
          refine z_iconst (pc2 := 76) rfl rfl ?_
          refine z_isub (pc2 := 77) rfl rfl ?_
          refine z_i2l (pc2 := 78) rfl rfl (by omega) ?_
          refine z_callS (y2 := 157) (as := [_, _, _]) (rest := []) (pc2 := 81) rfl rfl rfl rfl ?_
          refine m_in (by omega) (by omega) (by omega) (fun e12 e12a e12b e12c => ?_)
          show zB _ _ _ _ _ _ [_] _ _
          refine z_if_eq (t := 88) (pc2 := 84) rfl rfl rfl (by omega) (fun c13 => ?_) (fun c13 => ?_)
          ·
            refine z_iconst (pc2 := 89) rfl rfl ?_
            refine z_iret rfl rfl ?_
            exact hK _ (by omega) (by omega)
          ·
            refine z_iconst (pc2 := 85) rfl rfl ?_
            refine z_goto (pc2 := 89) rfl rfl ?_
            refine z_iret rfl rfl ?_
            exact hK _ (by omega) (by omega)
      ·
        refine z_aload_n (pc2 := 39) rfl rfl rfl ?_
        refine z_getP (pc2 := 42) rfl rfl rfl rfl t56 ?_
        intro p14 p14e p14k; replace p14k : p14 = some 65 := p14k; clear p14e; subst p14k
        refine z_iload (pc2 := 44) rfl rfl rfl ?_
        refine z_iald (pc2 := 45) rfl rfl t65 (by omega) (by omega) (by decide) ?_
        intro v15 e15 r15 k15
        clear e15
        replace k15 : (0 : Int) ≤ v15 ∧ v15 ≤ 6 := k15; clear r15
        refine z_goto (pc2 := 58) rfl rfl ?_
        refine z_istore (lv2 := [(5, _), (4, _), (0, _), (1, _), (2, _), (3, _)]) (pc2 := 60) rfl rfl rfl rfl ?_
        refine z_iload_n (pc2 := 61) rfl rfl rfl ?_
        refine z_iconst (pc2 := 62) rfl rfl ?_
        refine z_icmp_eq (t := 84) (pc2 := 65) rfl rfl rfl (by omega) (by omega) (fun c16 => by exfalso; omega) (fun c16 => ?_)
        refine z_iload_n (pc2 := 66) rfl rfl rfl ?_
        refine z_iconst (pc2 := 67) rfl rfl ?_
        refine z_icmp_eq (t := 84) (pc2 := 70) rfl rfl rfl (by omega) (by omega) (fun c17 => by exfalso; omega) (fun c17 => ?_)
        refine z_iload_n (pc2 := 71) rfl rfl rfl ?_
        refine z_i2l (pc2 := 72) rfl rfl (by omega) ?_
        refine z_lconst 0 (pc2 := 73) rfl rfl rfl ?_
        refine z_iload (pc2 := 75) rfl rfl rfl ?_
        refine z_iconst (pc2 := 76) rfl rfl ?_
        refine z_isub (pc2 := 77) rfl rfl ?_
        refine z_i2l (pc2 := 78) rfl rfl (by omega) ?_
        refine z_callS (y2 := 157) (as := [_, _, _]) (rest := []) (pc2 := 81) rfl rfl rfl rfl ?_
        refine m_in (by omega) (by omega) (by omega) (fun e18 e18a e18b e18c => ?_)
        show zB _ _ _ _ _ _ [_] _ _
        refine z_if_eq (t := 88) (pc2 := 84) rfl rfl rfl (by omega) (fun c19 => ?_) (fun c19 => ?_)
        ·
          refine z_iconst (pc2 := 89) rfl rfl ?_
          refine z_iret rfl rfl ?_
          exact hK _ (by omega) (by omega)
        ·
          refine z_iconst (pc2 := 85) rfl rfl ?_
          refine z_goto (pc2 := 89) rfl rfl ?_
          refine z_iret rfl rfl ?_
          exact hK _ (by omega) (by omega)
    ·
      refine z_aload_n (pc2 := 24) rfl rfl rfl ?_
      refine z_getP (pc2 := 27) rfl rfl rfl rfl t56 ?_
      intro p20 p20e p20k; replace p20k : p20 = some 61 := p20k; clear p20e; subst p20k
      refine z_iload (pc2 := 29) rfl rfl rfl ?_
      refine z_iald (pc2 := 30) rfl rfl t61 (by omega) (by omega) (by decide) ?_
      intro v21 e21 r21 k21
      clear e21
      replace k21 : (-1 : Int) ≤ v21 ∧ v21 ≤ 24 := k21; clear r21
      refine z_goto (pc2 := 58) rfl rfl ?_
      refine z_istore (lv2 := [(5, _), (4, _), (0, _), (1, _), (2, _), (3, _)]) (pc2 := 60) rfl rfl rfl rfl ?_
      refine z_iload_n (pc2 := 61) rfl rfl rfl ?_
      refine z_iconst (pc2 := 62) rfl rfl ?_
      refine z_icmp_eq (t := 84) (pc2 := 65) rfl rfl rfl (by omega) (by omega) (fun c22 => by exfalso; omega) (fun c22 => ?_)
      refine z_iload_n (pc2 := 66) rfl rfl rfl ?_
      refine z_iconst (pc2 := 67) rfl rfl ?_
      refine z_icmp_eq (t := 84) (pc2 := 70) rfl rfl rfl (by omega) (by omega) (fun c23 => by exfalso; omega) (fun c23 => ?_)
      refine z_iload_n (pc2 := 71) rfl rfl rfl ?_
      refine z_i2l (pc2 := 72) rfl rfl (by omega) ?_
      refine z_lconst 0 (pc2 := 73) rfl rfl rfl ?_
      refine z_iload (pc2 := 75) rfl rfl rfl ?_
      refine z_iconst (pc2 := 76) rfl rfl ?_
      refine z_isub (pc2 := 77) rfl rfl ?_
      refine z_i2l (pc2 := 78) rfl rfl (by omega) ?_
      refine z_callS (y2 := 157) (as := [_, _, _]) (rest := []) (pc2 := 81) rfl rfl rfl rfl ?_
      refine m_in (by omega) (by omega) (by omega) (fun e24 e24a e24b e24c => ?_)
      show zB _ _ _ _ _ _ [_] _ _
      refine z_if_eq (t := 88) (pc2 := 84) rfl rfl rfl (by omega) (fun c25 => ?_) (fun c25 => ?_)
      ·
        refine z_iconst (pc2 := 89) rfl rfl ?_
        refine z_iret rfl rfl ?_
        exact hK _ (by omega) (by omega)
      ·
        refine z_iconst (pc2 := 85) rfl rfl ?_
        refine z_goto (pc2 := 89) rfl rfl ?_
        refine z_iret rfl rfl ?_
        exact hK _ (by omega) (by omega)
  ·
    refine z_iconst (pc2 := 18) rfl rfl ?_
    refine z_iret rfl rfl ?_
    exact hK _ (by omega) (by omega)
set_option maxHeartbeats 8000000 in
theorem m_boxOf {L : Nat} {xs : Nat → Int32} {n sl : Nat} {T : Nat → zT} {I : Nat → Nat → Int} {P : Nat → Nat → Option Nat} {G : Nat → Nat → Int} {K : List zV → zH → Prop} {k f c : Int}  (hk : zR k) (hf : 0 ≤ f ∧ f ≤ 3) (hc : zR c) (hc0 : k = 0 → 0 ≤ c ∧ c ≤ 23) (hc1 : k = 1 → 0 ≤ c ∧ c ≤ 5) (hc4 : k < 0 ∨ 3 < k → 0 ≤ c ∧ c ≤ 3) (hK : ∀ e, 36 * f ≤ e ∧ e ≤ 36 * f + 35 → K [.inl e] (n, sl, T, I, P, G)) : zX zMd L xs 182 [.inl k, .inl f, .inl c] (n, sl, T, I, P, G) K := by
  refine z_inl ?_
  refine z_lv (lv2 := [(0, _), (1, _), (2, _)]) ⟨rfl, rfl, rfl, trivial⟩ ?_
  refine z_bipush (pc2 := 2) rfl rfl (by decide) ?_
  refine z_iload_n (pc2 := 3) rfl rfl rfl ?_
  refine z_imul (pc2 := 4) rfl rfl ?_
  refine z_iload_n (pc2 := 5) rfl rfl rfl ?_
  refine z_if_ne (t := 12) (pc2 := 8) rfl rfl rfl (by omega) (fun c1 => ?_) (fun c1 => ?_)
  ·
    refine z_iload_n (pc2 := 13) rfl rfl rfl ?_
    refine z_iconst (pc2 := 14) rfl rfl ?_
    refine z_icmp_ne (t := 24) (pc2 := 17) rfl rfl rfl (by omega) (by omega) (fun c2 => ?_) (fun c2 => ?_)
    ·
      refine z_iload_n (pc2 := 25) rfl rfl rfl ?_
      refine z_iconst (pc2 := 26) rfl rfl ?_
      refine z_icmp_ne (t := 34) (pc2 := 29) rfl rfl rfl (by omega) (by omega) (fun c3 => ?_) (fun c3 => ?_)
      ·
        refine z_iload_n (pc2 := 35) rfl rfl rfl ?_
        refine z_iconst (pc2 := 36) rfl rfl ?_
        refine z_icmp_ne (t := 44) (pc2 := 39) rfl rfl rfl (by omega) (by omega) (fun c4 => ?_) (fun c4 => ?_)
        ·
          refine z_bipush (pc2 := 46) rfl rfl (by decide) ?_
          refine z_iload_n (pc2 := 47) rfl rfl rfl ?_
          refine z_iadd (pc2 := 48) rfl rfl ?_
          refine z_iadd (pc2 := 49) rfl rfl ?_
          refine z_iret rfl rfl ?_
          exact hK _ (by omega)
        ·
          refine z_bipush (pc2 := 41) rfl rfl (by decide) ?_
          refine z_goto (pc2 := 48) rfl rfl ?_
          refine z_iadd (pc2 := 49) rfl rfl ?_
          refine z_iret rfl rfl ?_
          exact hK _ (by omega)
      ·
        refine z_bipush (pc2 := 31) rfl rfl (by decide) ?_
        refine z_goto (pc2 := 48) rfl rfl ?_
        refine z_iadd (pc2 := 49) rfl rfl ?_
        refine z_iret rfl rfl ?_
        exact hK _ (by omega)
    ·
      refine z_bipush (pc2 := 19) rfl rfl (by decide) ?_
      refine z_iload_n (pc2 := 20) rfl rfl rfl ?_
      refine z_iadd (pc2 := 21) rfl rfl ?_
      refine z_goto (pc2 := 48) rfl rfl ?_
      refine z_iadd (pc2 := 49) rfl rfl ?_
      refine z_iret rfl rfl ?_
      exact hK _ (by omega)
  ·
    refine z_iload_n (pc2 := 9) rfl rfl rfl ?_
    refine z_goto (pc2 := 48) rfl rfl ?_
    refine z_iadd (pc2 := 49) rfl rfl ?_
    refine z_iret rfl rfl ?_
    exact hK _ (by omega)
