/-! the reference: formes -/
set_option maxHeartbeats 8000000 in
theorem l_formeOf {L : Nat} {xs : Nat → Int32} {n sl : Nat} {T : Nat → zT} {I : Nat → Nat → Int} {P : Nat → Nat → Option Nat} {G : Nat → Nat → Int} {K : List zV → zH → Prop} {x q F : Int} (hT : ∀ a, 56 ≤ a → a ≤ 90 → T a = zFix a) (hx : zR x) (hq : 0 ≤ q ∧ q ≤ 1) (hF : 0 ≤ F ∧ F ≤ 12) (hq3 : I 56 3 = q) (hF3 : I 57 (56100 * q + 166).toNat = F) (hK : ∀ e, (-4 ≤ e ∧ e ≤ 11) → (0 ≤ e → e < F) → K [.inl e] (n, sl, T, I, P, G)) (m : Nat) : ∀ (b k : Int), -4 ≤ b ∧ b ≤ 11 → 0 ≤ k ∧ k ≤ 12 → (0 ≤ b → b < F) → (12 - k).toNat < m → zB zMd L xs 259 5 [(0, .inr (.inl (some 56))), (1, .inl x), (2, .inl b), (3, .inl k)] [] (n, sl, T, I, P, G) K := by
  have t56 : T 56 = (1, 12, [1]) := hT 56 (by decide) (by decide)
  have t57 : T 57 = (2, 0, [112200, 1]) := hT 57 (by decide) (by decide)
  induction m with
  | zero => intro b k hb hk hb3 hm; omega
  | succ m ih =>
    intro b k hb hk hb3 hm
    refine z_iload_n (pc2 := 6) rfl rfl rfl ?_
    refine z_aload_n (pc2 := 7) rfl rfl rfl ?_
    refine z_getP (pc2 := 10) rfl rfl rfl rfl t56 ?_
    intro p1 p1e p1k; replace p1k : p1 = some 57 := p1k; clear p1e; subst p1k
    refine z_aload_n (pc2 := 11) rfl rfl rfl ?_
    refine z_callV (y2 := 162) (as := []) (rest := [_, _]) (pc2 := 14) rfl rfl rfl rfl t56 rfl ?_
    refine z_inl ?_
    refine z_lv (lv2 := [(0, _)]) ⟨rfl, trivial⟩ ?_
    refine z_ldc (56100) (pc2 := 2) rfl rfl rfl ?_
    refine z_aload_n (pc2 := 3) rfl rfl rfl ?_
    refine z_getI (pc2 := 6) 0 rfl rfl rfl rfl rfl t56 ?_
    intro v2 e2 r2 k2
    replace k2 : (0 : Int) ≤ v2 ∧ v2 ≤ 1 := k2; clear r2
    replace e2 : q = v2 := by rw [e2]; first | exact hq3 | exact Eq.symm hq3 | (simp [zU]; first | done | exact hq3 | exact Eq.symm hq3 | omega)
    subst e2
    refine z_imul (pc2 := 7) rfl rfl ?_
    refine z_iret rfl rfl ?_
    show zB _ _ _ _ _ _ [_, _, _] _ _
    refine z_sipush (pc2 := 17) rfl rfl (by decide) ?_
    refine z_iadd (pc2 := 18) rfl rfl ?_
    refine z_iald (pc2 := 19) rfl rfl t57 (by omega) (by omega) (by decide) ?_
    intro v3 e3 r3 k3
    replace k3 := ok_formes k3 (by omega); clear r3
    replace e3 : F = v3 := by rw [e3]; first | exact hF3 | exact Eq.symm hF3 | (simp [zU]; first | done | exact hF3 | exact Eq.symm hF3 | omega)
    subst e3
    refine z_icmp_ge (t := 55) (pc2 := 22) rfl rfl rfl (by omega) (by omega) (fun c4 => ?_) (fun c4 => ?_)
    ·
      refine z_iload_n (pc2 := 56) rfl rfl rfl ?_
      refine z_iret rfl rfl ?_
      exact hK _ (by omega) (by omega)
    ·
      refine z_aload_n (pc2 := 23) rfl rfl rfl ?_
      refine z_getP (pc2 := 26) rfl rfl rfl rfl t56 ?_
      intro p5 p5e p5k; replace p5k : p5 = some 57 := p5k; clear p5e; subst p5k
      refine z_aload_n (pc2 := 27) rfl rfl rfl ?_
      refine z_callV (y2 := 162) (as := []) (rest := [_]) (pc2 := 30) rfl rfl rfl rfl t56 rfl ?_
      refine z_inl ?_
      refine z_lv (lv2 := [(0, _)]) ⟨rfl, trivial⟩ ?_
      refine z_ldc (56100) (pc2 := 2) rfl rfl rfl ?_
      refine z_aload_n (pc2 := 3) rfl rfl rfl ?_
      refine z_getI (pc2 := 6) 0 rfl rfl rfl rfl rfl t56 ?_
      intro v6 e6 r6 k6
      replace k6 : (0 : Int) ≤ v6 ∧ v6 ≤ 1 := k6; clear r6
      replace e6 : q = v6 := by rw [e6]; first | exact hq3 | exact Eq.symm hq3 | (simp [zU]; first | done | exact hq3 | exact Eq.symm hq3 | omega)
      subst e6
      refine z_imul (pc2 := 7) rfl rfl ?_
      refine z_iret rfl rfl ?_
      show zB _ _ _ _ _ _ [_, _] _ _
      refine z_sipush (pc2 := 33) rfl rfl (by decide) ?_
      refine z_iadd (pc2 := 34) rfl rfl ?_
      refine z_iconst (pc2 := 35) rfl rfl ?_
      refine z_iload_n (pc2 := 36) rfl rfl rfl ?_
      refine z_imul (pc2 := 37) rfl rfl ?_
      refine z_iadd (pc2 := 38) rfl rfl ?_
      refine z_iald (pc2 := 39) rfl rfl t57 (by omega) (by omega) (by decide) ?_
      intro v7 e7 r7 k7
      clear e7
      clear k7
      refine z_iload_n (pc2 := 40) rfl rfl rfl ?_
      refine z_icmp_ne (t := 47) (pc2 := 43) rfl rfl rfl (by omega) (by omega) (fun c8 => ?_) (fun c8 => ?_)
      ·
        refine z_iload_n (pc2 := 48) rfl rfl rfl ?_
        refine z_istore_n (lv2 := [(2, _), (0, _), (1, _), (3, _)]) (pc2 := 49) rfl rfl rfl rfl ?_
        refine z_iinc (lv2 := [(3, _), (2, _), (0, _), (1, _)]) (pc2 := 52) rfl rfl rfl rfl rfl ?_
        refine z_goto (pc2 := 5) rfl rfl ?_
        refine z_lv (lv2 := [(0, _), (1, _), (2, _), (3, _)]) ⟨rfl, rfl, rfl, rfl, trivial⟩ ?_
        exact ih _ _ (by omega) (by omega) (by omega) (by omega)
      ·
        refine z_iload_n (pc2 := 44) rfl rfl rfl ?_
        refine z_goto (pc2 := 48) rfl rfl ?_
        refine z_istore_n (lv2 := [(2, _), (0, _), (1, _), (3, _)]) (pc2 := 49) rfl rfl rfl rfl ?_
        refine z_iinc (lv2 := [(3, _), (2, _), (0, _), (1, _)]) (pc2 := 52) rfl rfl rfl rfl rfl ?_
        refine z_goto (pc2 := 5) rfl rfl ?_
        refine z_lv (lv2 := [(0, _), (1, _), (2, _), (3, _)]) ⟨rfl, rfl, rfl, rfl, trivial⟩ ?_
        exact ih _ _ (by omega) (by omega) (by omega) (by omega)
set_option maxHeartbeats 8000000 in
theorem m_formeOf {L : Nat} {xs : Nat → Int32} {n sl : Nat} {T : Nat → zT} {I : Nat → Nat → Int} {P : Nat → Nat → Option Nat} {G : Nat → Nat → Int} {K : List zV → zH → Prop} {x : Int} (hT : ∀ a, 56 ≤ a → a ≤ 90 → T a = zFix a) (hx : zR x) (hK : ∀ e, (-4 ≤ e ∧ e ≤ 11) → (0 ≤ e → e < I 57 (56100 * I 56 3 + 166).toNat) → K [.inl e] (n, sl, T, I, P, G)) : zX zMd L xs 259 [.inr (.inl (some 56)), .inl x] (n, sl, T, I, P, G) K := by
  refine zX_wf (fun hw => ?_)
  have hq01 := zQ01 hT hw
  have hF12 : 0 ≤ I 57 (56100 * I 56 3 + 166).toNat ∧ I 57 (56100 * I 56 3 + 166).toNat ≤ 12 := by have h1 := hw.2.1 57 (56100 * I 56 3 + 166).toNat; rw [show (n, sl, T, I, P, G).2.2.1 57 = T 57 from rfl, hT 57 (by decide) (by decide)] at h1; exact ok_formes h1 (by omega)
  refine z_inl ?_
  refine z_lv (lv2 := [(0, _), (1, _)]) ⟨rfl, rfl, trivial⟩ ?_
  refine z_bipush (pc2 := 2) rfl rfl (by decide) ?_
  refine z_istore_n (lv2 := [(2, _), (0, _), (1, _)]) (pc2 := 3) rfl rfl rfl rfl ?_
  refine z_iconst (pc2 := 4) rfl rfl ?_
  refine z_istore_n (lv2 := [(3, _), (2, _), (0, _), (1, _)]) (pc2 := 5) rfl rfl rfl rfl ?_
  refine z_lv (lv2 := [(0, _), (1, _), (2, _), (3, _)]) ⟨rfl, rfl, rfl, rfl, trivial⟩ ?_
  exact l_formeOf hT (q := I 56 3) (F := I 57 (56100 * I 56 3 + 166).toNat) hx hq01 hF12 rfl rfl hK _ _ _ (by omega) (by omega)  (by omega) (Nat.lt_succ_self _)
set_option maxHeartbeats 8000000 in
theorem l_linesAhead {L : Nat} {xs : Nat → Int32} {n sl : Nat} {T : Nat → zT} {I : Nat → Nat → Int} {P : Nat → Nat → Option Nat} {G : Nat → Nat → Int} {K : List zV → zH → Prop} {c q : Int} (hT : ∀ a, 56 ≤ a → a ≤ 90 → T a = zFix a) (hc : 0 ≤ c ∧ c ≤ 12) (hq : 0 ≤ q ∧ q ≤ 1) (hq3 : I 56 3 = q) (hK : ∀ e, e = zSum (I 57) (56100 * q + 1901).toNat 2 c.toNat → (0 ≤ e ∧ e ≤ 60 * c) → K [.inl e] (n, sl, T, I, P, G)) (m : Nat) : ∀ (s k : Int), 0 ≤ s ∧ s ≤ 720 → 0 ≤ k ∧ k ≤ 12 → s = zSum (I 57) (56100 * q + 1901).toNat 2 k.toNat → s ≤ 60 * k ∧ k ≤ c → (12 - k).toNat < m → zB zMd L xs 260 4 [(0, .inr (.inl (some 56))), (1, .inl c), (2, .inl s), (3, .inl k)] [] (n, sl, T, I, P, G) K := by
  have t56 : T 56 = (1, 12, [1]) := hT 56 (by decide) (by decide)
  have t57 : T 57 = (2, 0, [112200, 1]) := hT 57 (by decide) (by decide)
  induction m with
  | zero => intro s k hs hk hs3 hb3 hm; omega
  | succ m ih =>
    intro s k hs hk hs3 hb3 hm
    refine z_iload_n (pc2 := 5) rfl rfl rfl ?_
    refine z_iload_n (pc2 := 6) rfl rfl rfl ?_
    refine z_icmp_ge (t := 37) (pc2 := 9) rfl rfl rfl (by omega) (by omega) (fun c1 => ?_) (fun c1 => ?_)
    ·
      refine z_iload_n (pc2 := 38) rfl rfl rfl ?_
      refine z_iret rfl rfl ?_
      exact hK _ (by rw [show c = k by omega]; exact hs3) (by omega)
    ·
      refine z_iload_n (pc2 := 10) rfl rfl rfl ?_
      refine z_aload_n (pc2 := 11) rfl rfl rfl ?_
      refine z_getP (pc2 := 14) rfl rfl rfl rfl t56 ?_
      intro p2 p2e p2k; replace p2k : p2 = some 57 := p2k; clear p2e; subst p2k
      refine z_aload_n (pc2 := 15) rfl rfl rfl ?_
      refine z_callV (y2 := 162) (as := []) (rest := [_, _]) (pc2 := 18) rfl rfl rfl rfl t56 rfl ?_
      refine z_inl ?_
      refine z_lv (lv2 := [(0, _)]) ⟨rfl, trivial⟩ ?_
      refine z_ldc (56100) (pc2 := 2) rfl rfl rfl ?_
      refine z_aload_n (pc2 := 3) rfl rfl rfl ?_
      refine z_getI (pc2 := 6) 0 rfl rfl rfl rfl rfl t56 ?_
      intro v3 e3 r3 k3
      replace k3 : (0 : Int) ≤ v3 ∧ v3 ≤ 1 := k3; clear r3
      replace e3 : q = v3 := by rw [e3]; first | exact hq3 | exact Eq.symm hq3 | (simp [zU]; first | done | exact hq3 | exact Eq.symm hq3 | omega)
      subst e3
      refine z_imul (pc2 := 7) rfl rfl ?_
      refine z_iret rfl rfl ?_
      show zB _ _ _ _ _ _ [_, _, _] _ _
      refine z_sipush (pc2 := 21) rfl rfl (by decide) ?_
      refine z_iadd (pc2 := 22) rfl rfl ?_
      refine z_iconst (pc2 := 23) rfl rfl ?_
      refine z_iload_n (pc2 := 24) rfl rfl rfl ?_
      refine z_imul (pc2 := 25) rfl rfl ?_
      refine z_iadd (pc2 := 26) rfl rfl ?_
      refine z_iconst (pc2 := 27) rfl rfl ?_
      refine z_iadd (pc2 := 28) rfl rfl ?_
      refine z_iald (pc2 := 29) rfl rfl t57 (by omega) (by omega) (by decide) ?_
      intro v4 e4 r4 k4
      replace k4 := ok_fl k4 (by omega); clear r4
      refine z_iadd (pc2 := 30) rfl rfl ?_
      refine z_istore_n (lv2 := [(2, _), (0, _), (1, _), (3, _)]) (pc2 := 31) rfl rfl rfl rfl ?_
      refine z_iinc (lv2 := [(3, _), (2, _), (0, _), (1, _)]) (pc2 := 34) rfl rfl rfl rfl rfl ?_
      refine z_goto (pc2 := 4) rfl rfl ?_
      refine z_lv (lv2 := [(0, _), (1, _), (2, _), (3, _)]) ⟨rfl, rfl, rfl, rfl, trivial⟩ ?_
      exact ih _ _ (by omega) (by omega) (zSum_s (by omega) hs3 (by assumption) (by omega)) (by omega) (by omega)
set_option maxHeartbeats 8000000 in
theorem m_linesAhead {L : Nat} {xs : Nat → Int32} {n sl : Nat} {T : Nat → zT} {I : Nat → Nat → Int} {P : Nat → Nat → Option Nat} {G : Nat → Nat → Int} {K : List zV → zH → Prop} {c : Int} (hT : ∀ a, 56 ≤ a → a ≤ 90 → T a = zFix a) (hc : 0 ≤ c ∧ c ≤ 12) (hK : ∀ e, e = zSum (I 57) (56100 * I 56 3 + 1901).toNat 2 c.toNat → (0 ≤ e ∧ e ≤ 60 * c) → K [.inl e] (n, sl, T, I, P, G)) : zX zMd L xs 260 [.inr (.inl (some 56)), .inl c] (n, sl, T, I, P, G) K := by
  refine zX_wf (fun hw => ?_)
  have hq01 := zQ01 hT hw
  refine z_inl ?_
  refine z_lv (lv2 := [(0, _), (1, _)]) ⟨rfl, rfl, trivial⟩ ?_
  refine z_iconst (pc2 := 1) rfl rfl ?_
  refine z_istore_n (lv2 := [(2, _), (0, _), (1, _)]) (pc2 := 2) rfl rfl rfl rfl ?_
  refine z_iconst (pc2 := 3) rfl rfl ?_
  refine z_istore_n (lv2 := [(3, _), (2, _), (0, _), (1, _)]) (pc2 := 4) rfl rfl rfl rfl ?_
  refine z_lv (lv2 := [(0, _), (1, _), (2, _), (3, _)]) ⟨rfl, rfl, rfl, rfl, trivial⟩ ?_
  exact l_linesAhead hT (q := I 56 3) hc hq01 rfl hK _ _ _ (by omega) (by omega)  rfl (by omega) (Nat.lt_succ_self _)
