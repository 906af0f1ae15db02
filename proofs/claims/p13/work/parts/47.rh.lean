/-! the reference: a line that is measured -/
set_option maxHeartbeats 8000000 in
theorem l_calls {L : Nat} {xs : Nat → Int32} {n sl : Nat} {T : Nat → zT} {I : Nat → Nat → Int} {P : Nat → Nat → Option Nat} {G : Nat → Nat → Int} {K : List zV → zH → Prop} {p N : Int} (hT : ∀ a, 56 ≤ a → a ≤ 90 → T a = zFix a) (hp : 0 ≤ p ∧ p ≤ 11) (hN : 0 ≤ N ∧ N ≤ 12) (hN2 : I 56 33 = N) (hn : zNd I) (hr : ∀ k, 0 ≤ I 83 k ∧ I 83 k ≤ 11) (hK : ∀ I2 G2, zLf I I2 → zNd I2 → (∀ k, k ≠ 33 → I2 56 k = I 56 k) → K [] (n, sl, T, I2, P, G2)) (m : Nat) : ∀ (h k : Int), 0 ≤ h ∧ h ≤ 1 → 0 ≤ k ∧ k ≤ 12 → (h = 0 → ∀ j : Nat, (j : Int) < k → I 83 j ≠ p) → (12 - k).toNat < m → zB zMd L xs 229 4 [(0, .inr (.inl (some 56))), (1, .inl p), (2, .inl h), (3, .inl k)] [] (n, sl, T, I, P, G) K := by
  have t56 : T 56 = (1, 12, [1]) := hT 56 (by decide) (by decide)
  have t83 : T 83 = (2, 0, [12, 9]) := hT 83 (by decide) (by decide)
  induction m with
  | zero => intro h k hh hk hh hm; omega
  | succ m ih =>
    intro h k hh hk hh hm
    refine z_iload_n (pc2 := 5) rfl rfl rfl ?_
    refine z_aload_n (pc2 := 6) rfl rfl rfl ?_
    refine z_getI (pc2 := 9) 0 rfl rfl rfl rfl rfl t56 ?_
    intro v1 e1 r1 k1
    replace k1 : (0 : Int) ≤ v1 ∧ v1 ≤ 12 := k1; clear r1
    replace e1 : N = v1 := by rw [e1]; first | exact hN2 | exact Eq.symm hN2 | (simp [zU]; first | done | exact hN2 | exact Eq.symm hN2 | omega)
    subst e1
    refine z_icmp_ge (t := 38) (pc2 := 12) rfl rfl rfl (by omega) (by omega) (fun c2 => ?_) (fun c2 => ?_)
    ·
      refine z_iload_n (pc2 := 39) rfl rfl rfl ?_
      refine z_if_ne (t := 62) (pc2 := 42) rfl rfl rfl (by omega) (fun c3 => ?_) (fun c3 => ?_)
      ·
        refine z_ret rfl rfl ?_
        first | exact hK _ _ (zLf_rf _) hn (fun _ _ => rfl) | exact hK _ _ (by repeat (first | exact zLf_rf _ | assumption | refine zLf_a ?_ (by decide) | refine zLf_f ?_ (by decide))) (zNd_put2 hn hN2 (by omega) (fun j hj => hh (by omega) j (by omega))) (fun k hk => by simp [zU, hk])
      ·
        have hlt := zNd_lt hn hr (by omega) (fun j hj => hh (by omega) j (by omega))
        refine z_aload_n (pc2 := 43) rfl rfl rfl ?_
        refine z_getP (pc2 := 46) rfl rfl rfl rfl t56 ?_
        intro p4 p4e p4k; replace p4k : p4 = some 83 := p4k; clear p4e; subst p4k
        refine z_aload_n (pc2 := 47) rfl rfl rfl ?_
        refine z_getI (pc2 := 50) 0 rfl rfl rfl rfl rfl t56 ?_
        intro v5 e5 r5 k5
        replace k5 : (0 : Int) ≤ v5 ∧ v5 ≤ 12 := k5; clear r5
        replace e5 : N = v5 := by rw [e5]; first | exact hN2 | exact Eq.symm hN2 | (simp [zU]; first | done | exact hN2 | exact Eq.symm hN2 | omega)
        subst e5
        refine z_iload_n (pc2 := 51) rfl rfl rfl ?_
        refine z_iast (pc2 := 52) rfl rfl t83 (by omega) (by omega) (by decide) (by omega) (by show (0 : Int) ≤ _ ∧ _ ≤ 11; omega) ?_
        refine z_aload_n (pc2 := 53) rfl rfl rfl ?_
        refine z_dup (pc2 := 54) rfl rfl rfl ?_
        refine z_getI (pc2 := 57) 0 rfl rfl rfl rfl rfl t56 ?_
        intro v6 e6 r6 k6
        replace k6 : (0 : Int) ≤ v6 ∧ v6 ≤ 12 := k6; clear r6
        replace e6 : N = v6 := by rw [e6]; first | exact hN2 | exact Eq.symm hN2 | (simp [zU]; first | done | exact hN2 | exact Eq.symm hN2 | omega)
        subst e6
        refine z_iconst (pc2 := 58) rfl rfl ?_
        refine z_iadd (pc2 := 59) rfl rfl ?_
        refine z_putI (pc2 := 62) rfl rfl rfl rfl rfl rfl t56 (by omega) (by show (0 : Int) ≤ _ ∧ _ ≤ 12; omega) ?_
        refine z_ret rfl rfl ?_
        first | exact hK _ _ (zLf_rf _) hn (fun _ _ => rfl) | exact hK _ _ (by repeat (first | exact zLf_rf _ | assumption | refine zLf_a ?_ (by decide) | refine zLf_f ?_ (by decide))) (zNd_put2 hn hN2 (by omega) (fun j hj => hh (by omega) j (by omega))) (fun k hk => by simp [zU, hk])
    ·
      refine z_iload_n (pc2 := 13) rfl rfl rfl ?_
      refine z_if_ne (t := 26) (pc2 := 16) rfl rfl rfl (by omega) (fun c7 => ?_) (fun c7 => ?_)
      ·
        refine z_iconst (pc2 := 27) rfl rfl ?_
        refine z_goto (pc2 := 31) rfl rfl ?_
        refine z_istore_n (lv2 := [(2, _), (0, _), (1, _), (3, _)]) (pc2 := 32) rfl rfl rfl rfl ?_
        refine z_iinc (lv2 := [(3, _), (2, _), (0, _), (1, _)]) (pc2 := 35) rfl rfl rfl rfl rfl ?_
        refine z_goto (pc2 := 4) rfl rfl ?_
        refine z_lv (lv2 := [(0, _), (1, _), (2, _), (3, _)]) ⟨rfl, rfl, rfl, rfl, trivial⟩ ?_
        exact ih _ _ (by omega) (by omega) (fun h0 => by first | (exfalso; omega) | exact zNn_step hh (by omega) (by assumption) (by omega) (by omega)) (by omega)
      ·
        refine z_aload_n (pc2 := 17) rfl rfl rfl ?_
        refine z_getP (pc2 := 20) rfl rfl rfl rfl t56 ?_
        intro p8 p8e p8k; replace p8k : p8 = some 83 := p8k; clear p8e; subst p8k
        refine z_iload_n (pc2 := 21) rfl rfl rfl ?_
        refine z_iald (pc2 := 22) rfl rfl t83 (by omega) (by omega) (by decide) ?_
        intro v9 e9 r9 k9
        replace k9 : (0 : Int) ≤ v9 ∧ v9 ≤ 11 := k9; clear r9
        refine z_iload_n (pc2 := 23) rfl rfl rfl ?_
        refine z_icmp_ne (t := 30) (pc2 := 26) rfl rfl rfl (by omega) (by omega) (fun c10 => ?_) (fun c10 => ?_)
        ·
          refine z_iconst (pc2 := 31) rfl rfl ?_
          refine z_istore_n (lv2 := [(2, _), (0, _), (1, _), (3, _)]) (pc2 := 32) rfl rfl rfl rfl ?_
          refine z_iinc (lv2 := [(3, _), (2, _), (0, _), (1, _)]) (pc2 := 35) rfl rfl rfl rfl rfl ?_
          refine z_goto (pc2 := 4) rfl rfl ?_
          refine z_lv (lv2 := [(0, _), (1, _), (2, _), (3, _)]) ⟨rfl, rfl, rfl, rfl, trivial⟩ ?_
          exact ih _ _ (by omega) (by omega) (fun h0 => by first | (exfalso; omega) | exact zNn_step hh (by omega) (by assumption) (by omega) (by omega)) (by omega)
        ·
          refine z_iconst (pc2 := 27) rfl rfl ?_
          refine z_goto (pc2 := 31) rfl rfl ?_
          refine z_istore_n (lv2 := [(2, _), (0, _), (1, _), (3, _)]) (pc2 := 32) rfl rfl rfl rfl ?_
          refine z_iinc (lv2 := [(3, _), (2, _), (0, _), (1, _)]) (pc2 := 35) rfl rfl rfl rfl rfl ?_
          refine z_goto (pc2 := 4) rfl rfl ?_
          refine z_lv (lv2 := [(0, _), (1, _), (2, _), (3, _)]) ⟨rfl, rfl, rfl, rfl, trivial⟩ ?_
          exact ih _ _ (by omega) (by omega) (fun h0 => by first | (exfalso; omega) | exact zNn_step hh (by omega) (by assumption) (by omega) (by omega)) (by omega)
set_option maxHeartbeats 8000000 in
theorem m_calls {L : Nat} {xs : Nat → Int32} {n sl : Nat} {T : Nat → zT} {I : Nat → Nat → Int} {P : Nat → Nat → Option Nat} {G : Nat → Nat → Int} {K : List zV → zH → Prop} {p : Int} (hT : ∀ a, 56 ≤ a → a ≤ 90 → T a = zFix a) (hp : 0 ≤ p ∧ p ≤ 11) (hn : zNd I) (hK : ∀ I2 G2, zLf I I2 → zNd I2 → (∀ k, k ≠ 33 → I2 56 k = I 56 k) → K [] (n, sl, T, I2, P, G2)) : zX zMd L xs 229 [.inr (.inl (some 56)), .inl p] (n, sl, T, I, P, G) K := by
  refine zX_wf (fun hw => ?_)
  have hr : ∀ k, 0 ≤ I 83 k ∧ I 83 k ≤ 11 := fun k => by have h1 := hw.2.1 83 k; rw [show (n, sl, T, I, P, G).2.2.1 83 = T 83 from rfl, hT 83 (by decide) (by decide)] at h1; exact h1
  have hb33 : 0 ≤ I 56 33 ∧ I 56 33 ≤ 12 := by have h1 := hw.2.1 56 33; rw [show (n, sl, T, I, P, G).2.2.1 56 = T 56 from rfl, hT 56 (by decide) (by decide)] at h1; exact h1
  refine z_inl ?_
  refine z_lv (lv2 := [(0, _), (1, _)]) ⟨rfl, rfl, trivial⟩ ?_
  refine z_iconst (pc2 := 1) rfl rfl ?_
  refine z_istore_n (lv2 := [(2, _), (0, _), (1, _)]) (pc2 := 2) rfl rfl rfl rfl ?_
  refine z_iconst (pc2 := 3) rfl rfl ?_
  refine z_istore_n (lv2 := [(3, _), (2, _), (0, _), (1, _)]) (pc2 := 4) rfl rfl rfl rfl ?_
  refine z_lv (lv2 := [(0, _), (1, _), (2, _), (3, _)]) ⟨rfl, rfl, rfl, rfl, trivial⟩ ?_
  exact l_calls hT (N := I 56 33) hp hb33 rfl hn hr hK _ _ _ (by omega) (by omega)  (fun _ j hj => by omega) (Nat.lt_succ_self _)
set_option maxHeartbeats 8000000 in
theorem m_kernOf {L : Nat} {xs : Nat → Int32} {n sl : Nat} {T : Nat → zT} {I : Nat → Nat → Int} {P : Nat → Nat → Option Nat} {G : Nat → Nat → Int} {K : List zV → zH → Prop} {s t : Int} (hT : ∀ a, 56 ≤ a → a ≤ 90 → T a = zFix a) (hs : zR s) (ht : zR t) (hg : zGd s) (hg2 : zGd t) (hK : ∀ e, K [.inl e] (n, sl, T, I, P, G)) : zX zMd L xs 227 [.inr (.inl (some 56)), .inl s, .inl t] (n, sl, T, I, P, G) K := by
  have t56 : T 56 = (1, 12, [1]) := hT 56 (by decide) (by decide)
  have t63 : T 63 = (2, 0, [192, 2]) := hT 63 (by decide) (by decide)
  have t64 : T 64 = (2, 0, [4608, 0]) := hT 64 (by decide) (by decide)
  have hg' := hg
  unfold zGd at hg'
  have hg2' := hg2
  unfold zGd at hg2'
  refine z_inl ?_
  refine z_lv (lv2 := [(0, _), (1, _), (2, _)]) ⟨rfl, rfl, rfl, trivial⟩ ?_
  refine z_iload_n (pc2 := 1) rfl rfl rfl ?_
  refine z_callS (y2 := 173) (as := [_]) (rest := []) (pc2 := 4) rfl rfl rfl rfl ?_
  refine z_inl ?_
  refine z_lv (lv2 := [(0, _)]) ⟨rfl, trivial⟩ ?_
  refine z_iload_n (pc2 := 1) rfl rfl rfl ?_
  refine z_iconst (pc2 := 2) rfl rfl ?_
  refine z_shr_3 (pc2 := 3) rfl rfl (by omega) ?_
  refine z_sipush (pc2 := 6) rfl rfl (by decide) ?_
  refine z_and_255 (pc2 := 7) rfl rfl ?_
  refine z_iret rfl rfl ?_
  show zB _ _ _ _ _ _ [_] _ _
  refine z_istore_n (lv2 := [(3, _), (0, _), (1, _), (2, _)]) (pc2 := 5) rfl rfl rfl rfl ?_
  refine z_bipush (pc2 := 7) rfl rfl (by decide) ?_
  refine z_aload_n (pc2 := 8) rfl rfl rfl ?_
  refine z_iload_n (pc2 := 9) rfl rfl rfl ?_
  refine z_callS (y2 := 177) (as := [_]) (rest := [_, _]) (pc2 := 12) rfl rfl rfl rfl ?_
  refine z_inl ?_
  refine z_lv (lv2 := [(0, _)]) ⟨rfl, trivial⟩ ?_
  refine z_iload_n (pc2 := 1) rfl rfl rfl ?_
  refine z_iconst (pc2 := 2) rfl rfl ?_
  refine z_shr_1 (pc2 := 3) rfl rfl (by omega) ?_
  refine z_iconst (pc2 := 4) rfl rfl ?_
  refine z_and_3 (pc2 := 5) rfl rfl ?_
  refine z_iret rfl rfl ?_
  show zB _ _ _ _ _ _ [_, _, _] _ _
  refine z_callV (y2 := 163) (as := [_]) (rest := [_]) (pc2 := 15) rfl rfl rfl rfl t56 rfl ?_
  refine z_inl ?_
  refine z_lv (lv2 := [(0, _), (1, _)]) ⟨rfl, rfl, trivial⟩ ?_
  refine z_iconst (pc2 := 1) rfl rfl ?_
  refine z_aload_n (pc2 := 2) rfl rfl rfl ?_
  refine z_getI (pc2 := 5) 0 rfl rfl rfl rfl rfl t56 ?_
  intro v5 e5 r5 k5
  clear e5
  replace k5 : (0 : Int) ≤ v5 ∧ v5 ≤ 1 := k5; clear r5
  refine z_imul (pc2 := 6) rfl rfl ?_
  refine z_iload_n (pc2 := 7) rfl rfl rfl ?_
  refine z_iadd (pc2 := 8) rfl rfl ?_
  refine z_iret rfl rfl ?_
  show zB _ _ _ _ _ _ [_, _] _ _
  refine z_imul (pc2 := 16) rfl rfl ?_
  refine z_aload_n (pc2 := 17) rfl rfl rfl ?_
  refine z_iload_n (pc2 := 18) rfl rfl rfl ?_
  refine z_callV (y2 := 188) (as := [_]) (rest := [_]) (pc2 := 21) rfl rfl rfl rfl t56 rfl ?_
  refine m_lastLetter hT (by omega) (by first | assumption | (refine ⟨?_, ?_⟩ <;> omega)) (fun w6 w6r => ?_)
  show zB _ _ _ _ _ _ [_, _] _ _
  refine z_iadd (pc2 := 22) rfl rfl ?_
  refine z_istore (lv2 := [(4, _), (3, _), (0, _), (1, _), (2, _)]) (pc2 := 24) rfl rfl rfl rfl ?_
  refine z_aload_n (pc2 := 25) rfl rfl rfl ?_
  refine z_iload_n (pc2 := 26) rfl rfl rfl ?_
  refine z_callS (y2 := 173) (as := [_]) (rest := [_]) (pc2 := 29) rfl rfl rfl rfl ?_
  refine z_inl ?_
  refine z_lv (lv2 := [(0, _)]) ⟨rfl, trivial⟩ ?_
  refine z_iload_n (pc2 := 1) rfl rfl rfl ?_
  refine z_iconst (pc2 := 2) rfl rfl ?_
  refine z_shr_3 (pc2 := 3) rfl rfl (by omega) ?_
  refine z_sipush (pc2 := 6) rfl rfl (by decide) ?_
  refine z_and_255 (pc2 := 7) rfl rfl ?_
  refine z_iret rfl rfl ?_
  show zB _ _ _ _ _ _ [_, _] _ _
  refine z_callV (y2 := 187) (as := [_]) (rest := []) (pc2 := 32) rfl rfl rfl rfl t56 rfl ?_
  refine m_firstLetter hT (by omega) (by first | assumption | (refine ⟨?_, ?_⟩ <;> omega)) (fun w9 w9r => ?_)
  show zB _ _ _ _ _ _ [_] _ _
  refine z_istore (lv2 := [(5, _), (4, _), (3, _), (0, _), (1, _), (2, _)]) (pc2 := 34) rfl rfl rfl rfl ?_
  refine z_iload (pc2 := 36) rfl rfl rfl ?_
  refine z_aload_n (pc2 := 37) rfl rfl rfl ?_
  refine z_getP (pc2 := 40) rfl rfl rfl rfl t56 ?_
  intro p10 p10e p10k; replace p10k : p10 = some 63 := p10k; clear p10e; subst p10k
  refine z_iload (pc2 := 42) rfl rfl rfl ?_
  refine z_iald (pc2 := 43) rfl rfl t63 (by omega) (by omega) (by decide) ?_
  intro v11 e11 r11 k11
  clear e11
  replace k11 : (-1 : Int) ≤ v11 ∧ v11 ≤ 24 := k11; clear r11
  refine z_icmp_ge (t := 62) (pc2 := 46) rfl rfl rfl (by omega) (by omega) (fun c12 => ?_) (fun c12 => ?_)
  ·
    refine z_iconst (pc2 := 63) rfl rfl ?_
    refine z_iret rfl rfl ?_
    exact hK _
  ·
    refine z_aload_n (pc2 := 47) rfl rfl rfl ?_
    refine z_getP (pc2 := 50) rfl rfl rfl rfl t56 ?_
    intro p13 p13e p13k; replace p13k : p13 = some 64 := p13k; clear p13e; subst p13k
    refine z_bipush (pc2 := 52) rfl rfl (by decide) ?_
    refine z_iload (pc2 := 54) rfl rfl rfl ?_
    refine z_imul (pc2 := 55) rfl rfl ?_
    refine z_iload (pc2 := 57) rfl rfl rfl ?_
    refine z_iadd (pc2 := 58) rfl rfl ?_
    refine z_iald (pc2 := 59) rfl rfl t64 (by omega) (by omega) (by decide) ?_
    intro v14 e14 r14 k14
    clear e14
    clear k14
    refine z_goto (pc2 := 63) rfl rfl ?_
    refine z_iret rfl rfl ?_
    exact hK _
set_option maxHeartbeats 8000000 in
theorem m_stands {L : Nat} {xs : Nat → Int32} {n sl : Nat} {T : Nat → zT} {I : Nat → Nat → Int} {P : Nat → Nat → Option Nat} {G : Nat → Nat → Int} {K : List zV → zH → Prop} {s L2 S H : Int} (hT : ∀ a, 56 ≤ a → a ≤ 90 → T a = zFix a) (hs : zR s) (hL2 : 0 ≤ L2 ∧ L2 ≤ 41) (hS : 0 ≤ S ∧ S ≤ 41) (hH : 0 ≤ H ∧ H ≤ 123) (hg : zGd s) (hL3 : I 56 31 = L2) (hS3 : I 56 36 = S) (hH3 : I 56 37 = H) (hSL : S ≤ L2) (hHL : H ≤ 3 * L2) (hK : ∀ I2 G2 S2 H2, zLf I I2 → I2 56 31 = L2 + 1 → I2 56 36 = S2 → I2 56 37 = H2 → (0 ≤ S2 ∧ S2 ≤ L2 + 1) → (0 ≤ H2 ∧ H2 ≤ 3 * L2 + 3) → (∀ k, k ≠ 31 → k ≠ 35 → k ≠ 36 → k ≠ 37 → I2 56 k = I 56 k) → (∀ k, I2 83 k = I 83 k) → K [] (n, sl, T, I2, P, G2)) : zX zMd L xs 228 [.inr (.inl (some 56)), .inl s] (n, sl, T, I, P, G) K := by
  have t56 : T 56 = (1, 12, [1]) := hT 56 (by decide) (by decide)
  have t82 : T 82 = (2, 0, [42, 8]) := hT 82 (by decide) (by decide)
  refine z_inl ?_
  refine z_lv (lv2 := [(0, _), (1, _)]) ⟨rfl, rfl, trivial⟩ ?_
  refine z_aload_n (pc2 := 1) rfl rfl rfl ?_
  refine z_getI (pc2 := 4) 0 rfl rfl rfl rfl rfl t56 ?_
  intro v1 e1 r1 k1
  replace k1 : (0 : Int) ≤ v1 ∧ v1 ≤ 42 := k1; clear r1
  replace e1 : L2 = v1 := by rw [e1]; first | exact hL3 | exact Eq.symm hL3 | (simp [zU]; first | done | exact hL3 | exact Eq.symm hL3 | omega)
  subst e1
  refine z_if_le (t := 56) (pc2 := 7) rfl rfl rfl (by omega) (fun c2 => ?_) (fun c2 => ?_)
  ·
    refine z_aload_n (pc2 := 57) rfl rfl rfl ?_
    refine z_dup (pc2 := 58) rfl rfl rfl ?_
    refine z_getI (pc2 := 61) 0 rfl rfl rfl rfl rfl t56 ?_
    intro v3 e3 r3 k3
    clear e3
    clear k3
    refine z_aload_n (pc2 := 62) rfl rfl rfl ?_
    refine z_iload_n (pc2 := 63) rfl rfl rfl ?_
    refine z_callV (y2 := 191) (as := [_]) (rest := [_, _]) (pc2 := 66) rfl rfl rfl rfl t56 rfl ?_
    refine m_widthOf hT (by omega) (by assumption) (fun w4 => ?_)
    show zB _ _ _ _ _ _ [_, _, _] _ _
    refine z_iadd (pc2 := 67) rfl rfl ?_
    refine z_putI_any (pc2 := 70) rfl rfl rfl rfl rfl rfl t56 (fun _ _ => True.intro) (fun u5 u5r => ?_); clear u5r
    refine z_aload_n (pc2 := 71) rfl rfl rfl ?_
    refine z_dup (pc2 := 72) rfl rfl rfl ?_
    refine z_getI (pc2 := 75) 0 rfl rfl rfl rfl rfl t56 ?_
    intro v6 e6 r6 k6
    replace k6 : (0 : Int) ≤ v6 ∧ v6 ≤ 42 := k6; clear r6
    replace e6 : S = v6 := by rw [e6]; first | exact hS3 | exact Eq.symm hS3 | (simp [zU]; first | done | exact hS3 | exact Eq.symm hS3 | omega)
    subst e6
    refine z_iload_n (pc2 := 76) rfl rfl rfl ?_
    refine z_callS (y2 := 172) (as := [_]) (rest := [_, _]) (pc2 := 79) rfl rfl rfl rfl ?_
    refine z_inl ?_
    refine z_lv (lv2 := [(0, _)]) ⟨rfl, trivial⟩ ?_
    refine z_iload_n (pc2 := 1) rfl rfl rfl ?_
    refine z_bipush (pc2 := 3) rfl rfl (by decide) ?_
    refine z_and_7 (pc2 := 4) rfl rfl ?_
    refine z_iconst (pc2 := 5) rfl rfl ?_
    refine z_isub (pc2 := 6) rfl rfl ?_
    refine z_iret rfl rfl ?_
    show zB _ _ _ _ _ _ [_, _, _] _ _
    refine z_iconst (pc2 := 80) rfl rfl ?_
    refine z_icmp_ne (t := 87) (pc2 := 83) rfl rfl rfl (by omega) (by omega) (fun c8 => ?_) (fun c8 => ?_)
    ·
      refine z_iconst (pc2 := 88) rfl rfl ?_
      refine z_iadd (pc2 := 89) rfl rfl ?_
      refine z_putI (pc2 := 92) rfl rfl rfl rfl rfl rfl t56 (by omega) (by show (0 : Int) ≤ _ ∧ _ ≤ 42; omega) ?_
      refine z_aload_n (pc2 := 93) rfl rfl rfl ?_
      refine z_dup (pc2 := 94) rfl rfl rfl ?_
      refine z_getI (pc2 := 97) 0 rfl rfl rfl rfl rfl t56 ?_
      intro v9 e9 r9 k9
      replace k9 : (0 : Int) ≤ v9 ∧ v9 ≤ 126 := k9; clear r9
      replace e9 : H = v9 := by rw [e9]; first | exact hH3 | exact Eq.symm hH3 | (simp [zU]; first | done | exact hH3 | exact Eq.symm hH3 | omega)
      subst e9
      refine z_iload_n (pc2 := 98) rfl rfl rfl ?_
      refine z_callS (y2 := 172) (as := [_]) (rest := [_, _]) (pc2 := 101) rfl rfl rfl rfl ?_
      refine z_inl ?_
      refine z_lv (lv2 := [(0, _)]) ⟨rfl, trivial⟩ ?_
      refine z_iload_n (pc2 := 1) rfl rfl rfl ?_
      refine z_bipush (pc2 := 3) rfl rfl (by decide) ?_
      refine z_and_7 (pc2 := 4) rfl rfl ?_
      refine z_iconst (pc2 := 5) rfl rfl ?_
      refine z_isub (pc2 := 6) rfl rfl ?_
      refine z_iret rfl rfl ?_
      show zB _ _ _ _ _ _ [_, _, _] _ _
      refine z_iconst (pc2 := 102) rfl rfl ?_
      refine z_icmp_ne (t := 109) (pc2 := 105) rfl rfl rfl (by omega) (by omega) (fun c11 => ?_) (fun c11 => ?_)
      ·
        refine z_iload_n (pc2 := 110) rfl rfl rfl ?_
        refine z_callS (y2 := 172) (as := [_]) (rest := [_, _]) (pc2 := 113) rfl rfl rfl rfl ?_
        refine z_inl ?_
        refine z_lv (lv2 := [(0, _)]) ⟨rfl, trivial⟩ ?_
        refine z_iload_n (pc2 := 1) rfl rfl rfl ?_
        refine z_bipush (pc2 := 3) rfl rfl (by decide) ?_
        refine z_and_7 (pc2 := 4) rfl rfl ?_
        refine z_iconst (pc2 := 5) rfl rfl ?_
        refine z_isub (pc2 := 6) rfl rfl ?_
        refine z_iret rfl rfl ?_
        show zB _ _ _ _ _ _ [_, _, _] _ _
        refine z_iconst (pc2 := 114) rfl rfl ?_
        refine z_icmp_ne (t := 121) (pc2 := 117) rfl rfl rfl (by omega) (by omega) (fun c13 => ?_) (fun c13 => ?_)
        ·
          refine z_iconst (pc2 := 122) rfl rfl ?_
          refine z_iadd (pc2 := 123) rfl rfl ?_
          refine z_putI (pc2 := 126) rfl rfl rfl rfl rfl rfl t56 (by omega) (by show (0 : Int) ≤ _ ∧ _ ≤ 126; omega) ?_
          refine z_aload_n (pc2 := 127) rfl rfl rfl ?_
          refine z_getP (pc2 := 130) rfl rfl rfl rfl t56 ?_
          intro p14 p14e p14k; replace p14k : p14 = some 82 := p14k; clear p14e; subst p14k
          refine z_aload_n (pc2 := 131) rfl rfl rfl ?_
          refine z_getI (pc2 := 134) 0 rfl rfl rfl rfl rfl t56 ?_
          intro v15 e15 r15 k15
          replace k15 : (0 : Int) ≤ v15 ∧ v15 ≤ 42 := k15; clear r15
          replace e15 : L2 = v15 := by rw [e15]; first | exact hL3 | exact Eq.symm hL3 | (simp [zU]; first | done | exact hL3 | exact Eq.symm hL3 | omega)
          subst e15
          refine z_iload_n (pc2 := 135) rfl rfl rfl ?_
          refine z_iast (pc2 := 136) rfl rfl t82 (by omega) (by omega) (by decide) (by omega) (by show zGd _; first | assumption | exact zGd_0 | (unfold zGd; refine ⟨⟨?_, ?_⟩, ⟨?_, ?_⟩, ?_⟩ <;> omega)) ?_
          refine z_aload_n (pc2 := 137) rfl rfl rfl ?_
          refine z_dup (pc2 := 138) rfl rfl rfl ?_
          refine z_getI (pc2 := 141) 0 rfl rfl rfl rfl rfl t56 ?_
          intro v16 e16 r16 k16
          replace k16 : (0 : Int) ≤ v16 ∧ v16 ≤ 42 := k16; clear r16
          replace e16 : L2 = v16 := by rw [e16]; first | exact hL3 | exact Eq.symm hL3 | (simp [zU]; first | done | exact hL3 | exact Eq.symm hL3 | omega)
          subst e16
          refine z_iconst (pc2 := 142) rfl rfl ?_
          refine z_iadd (pc2 := 143) rfl rfl ?_
          refine z_putI (pc2 := 146) rfl rfl rfl rfl rfl rfl t56 (by omega) (by show (0 : Int) ≤ _ ∧ _ ≤ 42; omega) ?_
          refine z_ret rfl rfl ?_
          exact hK _ _ _ _ (by repeat (first | exact zLf_rf _ | assumption | refine zLf_a ?_ (by decide) | refine zLf_f ?_ (by decide))) (by simp [zU]) (by simp [zU]; rfl) (by simp [zU]; rfl) (by omega) (by omega) (fun k h1 h2 h3 h4 => by simp [zU, h1, h2, h3, h4]) (fun k => by simp [zU])
        ·
          refine z_iconst (pc2 := 118) rfl rfl ?_
          refine z_goto (pc2 := 122) rfl rfl ?_
          refine z_iadd (pc2 := 123) rfl rfl ?_
          refine z_putI (pc2 := 126) rfl rfl rfl rfl rfl rfl t56 (by omega) (by show (0 : Int) ≤ _ ∧ _ ≤ 126; omega) ?_
          refine z_aload_n (pc2 := 127) rfl rfl rfl ?_
          refine z_getP (pc2 := 130) rfl rfl rfl rfl t56 ?_
          intro p17 p17e p17k; replace p17k : p17 = some 82 := p17k; clear p17e; subst p17k
          refine z_aload_n (pc2 := 131) rfl rfl rfl ?_
          refine z_getI (pc2 := 134) 0 rfl rfl rfl rfl rfl t56 ?_
          intro v18 e18 r18 k18
          replace k18 : (0 : Int) ≤ v18 ∧ v18 ≤ 42 := k18; clear r18
          replace e18 : L2 = v18 := by rw [e18]; first | exact hL3 | exact Eq.symm hL3 | (simp [zU]; first | done | exact hL3 | exact Eq.symm hL3 | omega)
          subst e18
          refine z_iload_n (pc2 := 135) rfl rfl rfl ?_
          refine z_iast (pc2 := 136) rfl rfl t82 (by omega) (by omega) (by decide) (by omega) (by show zGd _; first | assumption | exact zGd_0 | (unfold zGd; refine ⟨⟨?_, ?_⟩, ⟨?_, ?_⟩, ?_⟩ <;> omega)) ?_
          refine z_aload_n (pc2 := 137) rfl rfl rfl ?_
          refine z_dup (pc2 := 138) rfl rfl rfl ?_
          refine z_getI (pc2 := 141) 0 rfl rfl rfl rfl rfl t56 ?_
          intro v19 e19 r19 k19
          replace k19 : (0 : Int) ≤ v19 ∧ v19 ≤ 42 := k19; clear r19
          replace e19 : L2 = v19 := by rw [e19]; first | exact hL3 | exact Eq.symm hL3 | (simp [zU]; first | done | exact hL3 | exact Eq.symm hL3 | omega)
          subst e19
          refine z_iconst (pc2 := 142) rfl rfl ?_
          refine z_iadd (pc2 := 143) rfl rfl ?_
          refine z_putI (pc2 := 146) rfl rfl rfl rfl rfl rfl t56 (by omega) (by show (0 : Int) ≤ _ ∧ _ ≤ 42; omega) ?_
          refine z_ret rfl rfl ?_
          exact hK _ _ _ _ (by repeat (first | exact zLf_rf _ | assumption | refine zLf_a ?_ (by decide) | refine zLf_f ?_ (by decide))) (by simp [zU]) (by simp [zU]; rfl) (by simp [zU]; rfl) (by omega) (by omega) (fun k h1 h2 h3 h4 => by simp [zU, h1, h2, h3, h4]) (fun k => by simp [zU])
      ·
        refine z_iconst (pc2 := 106) rfl rfl ?_
        refine z_goto (pc2 := 122) rfl rfl ?_
        refine z_iadd (pc2 := 123) rfl rfl ?_
        refine z_putI (pc2 := 126) rfl rfl rfl rfl rfl rfl t56 (by omega) (by show (0 : Int) ≤ _ ∧ _ ≤ 126; omega) ?_
        refine z_aload_n (pc2 := 127) rfl rfl rfl ?_
        refine z_getP (pc2 := 130) rfl rfl rfl rfl t56 ?_
        intro p20 p20e p20k; replace p20k : p20 = some 82 := p20k; clear p20e; subst p20k
        refine z_aload_n (pc2 := 131) rfl rfl rfl ?_
        refine z_getI (pc2 := 134) 0 rfl rfl rfl rfl rfl t56 ?_
        intro v21 e21 r21 k21
        replace k21 : (0 : Int) ≤ v21 ∧ v21 ≤ 42 := k21; clear r21
        replace e21 : L2 = v21 := by rw [e21]; first | exact hL3 | exact Eq.symm hL3 | (simp [zU]; first | done | exact hL3 | exact Eq.symm hL3 | omega)
        subst e21
        refine z_iload_n (pc2 := 135) rfl rfl rfl ?_
        refine z_iast (pc2 := 136) rfl rfl t82 (by omega) (by omega) (by decide) (by omega) (by show zGd _; first | assumption | exact zGd_0 | (unfold zGd; refine ⟨⟨?_, ?_⟩, ⟨?_, ?_⟩, ?_⟩ <;> omega)) ?_
        refine z_aload_n (pc2 := 137) rfl rfl rfl ?_
        refine z_dup (pc2 := 138) rfl rfl rfl ?_
        refine z_getI (pc2 := 141) 0 rfl rfl rfl rfl rfl t56 ?_
        intro v22 e22 r22 k22
        replace k22 : (0 : Int) ≤ v22 ∧ v22 ≤ 42 := k22; clear r22
        replace e22 : L2 = v22 := by rw [e22]; first | exact hL3 | exact Eq.symm hL3 | (simp [zU]; first | done | exact hL3 | exact Eq.symm hL3 | omega)
        subst e22
        refine z_iconst (pc2 := 142) rfl rfl ?_
        refine z_iadd (pc2 := 143) rfl rfl ?_
        refine z_putI (pc2 := 146) rfl rfl rfl rfl rfl rfl t56 (by omega) (by show (0 : Int) ≤ _ ∧ _ ≤ 42; omega) ?_
        refine z_ret rfl rfl ?_
        exact hK _ _ _ _ (by repeat (first | exact zLf_rf _ | assumption | refine zLf_a ?_ (by decide) | refine zLf_f ?_ (by decide))) (by simp [zU]) (by simp [zU]; rfl) (by simp [zU]; rfl) (by omega) (by omega) (fun k h1 h2 h3 h4 => by simp [zU, h1, h2, h3, h4]) (fun k => by simp [zU])
    ·
      refine z_iconst (pc2 := 84) rfl rfl ?_
      refine z_goto (pc2 := 88) rfl rfl ?_
      refine z_iadd (pc2 := 89) rfl rfl ?_
      refine z_putI (pc2 := 92) rfl rfl rfl rfl rfl rfl t56 (by omega) (by show (0 : Int) ≤ _ ∧ _ ≤ 42; omega) ?_
      refine z_aload_n (pc2 := 93) rfl rfl rfl ?_
      refine z_dup (pc2 := 94) rfl rfl rfl ?_
      refine z_getI (pc2 := 97) 0 rfl rfl rfl rfl rfl t56 ?_
      intro v23 e23 r23 k23
      replace k23 : (0 : Int) ≤ v23 ∧ v23 ≤ 126 := k23; clear r23
      replace e23 : H = v23 := by rw [e23]; first | exact hH3 | exact Eq.symm hH3 | (simp [zU]; first | done | exact hH3 | exact Eq.symm hH3 | omega)
      subst e23
      refine z_iload_n (pc2 := 98) rfl rfl rfl ?_
      refine z_callS (y2 := 172) (as := [_]) (rest := [_, _]) (pc2 := 101) rfl rfl rfl rfl ?_
      refine z_inl ?_
      refine z_lv (lv2 := [(0, _)]) ⟨rfl, trivial⟩ ?_
      refine z_iload_n (pc2 := 1) rfl rfl rfl ?_
      refine z_bipush (pc2 := 3) rfl rfl (by decide) ?_
      refine z_and_7 (pc2 := 4) rfl rfl ?_
      refine z_iconst (pc2 := 5) rfl rfl ?_
      refine z_isub (pc2 := 6) rfl rfl ?_
      refine z_iret rfl rfl ?_
      show zB _ _ _ _ _ _ [_, _, _] _ _
      refine z_iconst (pc2 := 102) rfl rfl ?_
      refine z_icmp_ne (t := 109) (pc2 := 105) rfl rfl rfl (by omega) (by omega) (fun c25 => ?_) (fun c25 => ?_)
      ·
        refine z_iload_n (pc2 := 110) rfl rfl rfl ?_
        refine z_callS (y2 := 172) (as := [_]) (rest := [_, _]) (pc2 := 113) rfl rfl rfl rfl ?_
        refine z_inl ?_
        refine z_lv (lv2 := [(0, _)]) ⟨rfl, trivial⟩ ?_
        refine z_iload_n (pc2 := 1) rfl rfl rfl ?_
        refine z_bipush (pc2 := 3) rfl rfl (by decide) ?_
        refine z_and_7 (pc2 := 4) rfl rfl ?_
        refine z_iconst (pc2 := 5) rfl rfl ?_
        refine z_isub (pc2 := 6) rfl rfl ?_
        refine z_iret rfl rfl ?_
        show zB _ _ _ _ _ _ [_, _, _] _ _
        refine z_iconst (pc2 := 114) rfl rfl ?_
        refine z_icmp_ne (t := 121) (pc2 := 117) rfl rfl rfl (by omega) (by omega) (fun c27 => ?_) (fun c27 => ?_)
        ·
          refine z_iconst (pc2 := 122) rfl rfl ?_
          refine z_iadd (pc2 := 123) rfl rfl ?_
          refine z_putI (pc2 := 126) rfl rfl rfl rfl rfl rfl t56 (by omega) (by show (0 : Int) ≤ _ ∧ _ ≤ 126; omega) ?_
          refine z_aload_n (pc2 := 127) rfl rfl rfl ?_
          refine z_getP (pc2 := 130) rfl rfl rfl rfl t56 ?_
          intro p28 p28e p28k; replace p28k : p28 = some 82 := p28k; clear p28e; subst p28k
          refine z_aload_n (pc2 := 131) rfl rfl rfl ?_
          refine z_getI (pc2 := 134) 0 rfl rfl rfl rfl rfl t56 ?_
          intro v29 e29 r29 k29
          replace k29 : (0 : Int) ≤ v29 ∧ v29 ≤ 42 := k29; clear r29
          replace e29 : L2 = v29 := by rw [e29]; first | exact hL3 | exact Eq.symm hL3 | (simp [zU]; first | done | exact hL3 | exact Eq.symm hL3 | omega)
          subst e29
          refine z_iload_n (pc2 := 135) rfl rfl rfl ?_
          refine z_iast (pc2 := 136) rfl rfl t82 (by omega) (by omega) (by decide) (by omega) (by show zGd _; first | assumption | exact zGd_0 | (unfold zGd; refine ⟨⟨?_, ?_⟩, ⟨?_, ?_⟩, ?_⟩ <;> omega)) ?_
          refine z_aload_n (pc2 := 137) rfl rfl rfl ?_
          refine z_dup (pc2 := 138) rfl rfl rfl ?_
          refine z_getI (pc2 := 141) 0 rfl rfl rfl rfl rfl t56 ?_
          intro v30 e30 r30 k30
          replace k30 : (0 : Int) ≤ v30 ∧ v30 ≤ 42 := k30; clear r30
          replace e30 : L2 = v30 := by rw [e30]; first | exact hL3 | exact Eq.symm hL3 | (simp [zU]; first | done | exact hL3 | exact Eq.symm hL3 | omega)
          subst e30
          refine z_iconst (pc2 := 142) rfl rfl ?_
          refine z_iadd (pc2 := 143) rfl rfl ?_
          refine z_putI (pc2 := 146) rfl rfl rfl rfl rfl rfl t56 (by omega) (by show (0 : Int) ≤ _ ∧ _ ≤ 42; omega) ?_
          refine z_ret rfl rfl ?_
          exact hK _ _ _ _ (by repeat (first | exact zLf_rf _ | assumption | refine zLf_a ?_ (by decide) | refine zLf_f ?_ (by decide))) (by simp [zU]) (by simp [zU]; rfl) (by simp [zU]; rfl) (by omega) (by omega) (fun k h1 h2 h3 h4 => by simp [zU, h1, h2, h3, h4]) (fun k => by simp [zU])
        ·
          refine z_iconst (pc2 := 118) rfl rfl ?_
          refine z_goto (pc2 := 122) rfl rfl ?_
          refine z_iadd (pc2 := 123) rfl rfl ?_
          refine z_putI (pc2 := 126) rfl rfl rfl rfl rfl rfl t56 (by omega) (by show (0 : Int) ≤ _ ∧ _ ≤ 126; omega) ?_
          refine z_aload_n (pc2 := 127) rfl rfl rfl ?_
          refine z_getP (pc2 := 130) rfl rfl rfl rfl t56 ?_
          intro p31 p31e p31k; replace p31k : p31 = some 82 := p31k; clear p31e; subst p31k
          refine z_aload_n (pc2 := 131) rfl rfl rfl ?_
          refine z_getI (pc2 := 134) 0 rfl rfl rfl rfl rfl t56 ?_
          intro v32 e32 r32 k32
          replace k32 : (0 : Int) ≤ v32 ∧ v32 ≤ 42 := k32; clear r32
          replace e32 : L2 = v32 := by rw [e32]; first | exact hL3 | exact Eq.symm hL3 | (simp [zU]; first | done | exact hL3 | exact Eq.symm hL3 | omega)
          subst e32
          refine z_iload_n (pc2 := 135) rfl rfl rfl ?_
          refine z_iast (pc2 := 136) rfl rfl t82 (by omega) (by omega) (by decide) (by omega) (by show zGd _; first | assumption | exact zGd_0 | (unfold zGd; refine ⟨⟨?_, ?_⟩, ⟨?_, ?_⟩, ?_⟩ <;> omega)) ?_
          refine z_aload_n (pc2 := 137) rfl rfl rfl ?_
          refine z_dup (pc2 := 138) rfl rfl rfl ?_
          refine z_getI (pc2 := 141) 0 rfl rfl rfl rfl rfl t56 ?_
          intro v33 e33 r33 k33
          replace k33 : (0 : Int) ≤ v33 ∧ v33 ≤ 42 := k33; clear r33
          replace e33 : L2 = v33 := by rw [e33]; first | exact hL3 | exact Eq.symm hL3 | (simp [zU]; first | done | exact hL3 | exact Eq.symm hL3 | omega)
          subst e33
          refine z_iconst (pc2 := 142) rfl rfl ?_
          refine z_iadd (pc2 := 143) rfl rfl ?_
          refine z_putI (pc2 := 146) rfl rfl rfl rfl rfl rfl t56 (by omega) (by show (0 : Int) ≤ _ ∧ _ ≤ 42; omega) ?_
          refine z_ret rfl rfl ?_
          exact hK _ _ _ _ (by repeat (first | exact zLf_rf _ | assumption | refine zLf_a ?_ (by decide) | refine zLf_f ?_ (by decide))) (by simp [zU]) (by simp [zU]; rfl) (by simp [zU]; rfl) (by omega) (by omega) (fun k h1 h2 h3 h4 => by simp [zU, h1, h2, h3, h4]) (fun k => by simp [zU])
      ·
        refine z_iconst (pc2 := 106) rfl rfl ?_
        refine z_goto (pc2 := 122) rfl rfl ?_
        refine z_iadd (pc2 := 123) rfl rfl ?_
        refine z_putI (pc2 := 126) rfl rfl rfl rfl rfl rfl t56 (by omega) (by show (0 : Int) ≤ _ ∧ _ ≤ 126; omega) ?_
        refine z_aload_n (pc2 := 127) rfl rfl rfl ?_
        refine z_getP (pc2 := 130) rfl rfl rfl rfl t56 ?_
        intro p34 p34e p34k; replace p34k : p34 = some 82 := p34k; clear p34e; subst p34k
        refine z_aload_n (pc2 := 131) rfl rfl rfl ?_
        refine z_getI (pc2 := 134) 0 rfl rfl rfl rfl rfl t56 ?_
        intro v35 e35 r35 k35
        replace k35 : (0 : Int) ≤ v35 ∧ v35 ≤ 42 := k35; clear r35
        replace e35 : L2 = v35 := by rw [e35]; first | exact hL3 | exact Eq.symm hL3 | (simp [zU]; first | done | exact hL3 | exact Eq.symm hL3 | omega)
        subst e35
        refine z_iload_n (pc2 := 135) rfl rfl rfl ?_
        refine z_iast (pc2 := 136) rfl rfl t82 (by omega) (by omega) (by decide) (by omega) (by show zGd _; first | assumption | exact zGd_0 | (unfold zGd; refine ⟨⟨?_, ?_⟩, ⟨?_, ?_⟩, ?_⟩ <;> omega)) ?_
        refine z_aload_n (pc2 := 137) rfl rfl rfl ?_
        refine z_dup (pc2 := 138) rfl rfl rfl ?_
        refine z_getI (pc2 := 141) 0 rfl rfl rfl rfl rfl t56 ?_
        intro v36 e36 r36 k36
        replace k36 : (0 : Int) ≤ v36 ∧ v36 ≤ 42 := k36; clear r36
        replace e36 : L2 = v36 := by rw [e36]; first | exact hL3 | exact Eq.symm hL3 | (simp [zU]; first | done | exact hL3 | exact Eq.symm hL3 | omega)
        subst e36
        refine z_iconst (pc2 := 142) rfl rfl ?_
        refine z_iadd (pc2 := 143) rfl rfl ?_
        refine z_putI (pc2 := 146) rfl rfl rfl rfl rfl rfl t56 (by omega) (by show (0 : Int) ≤ _ ∧ _ ≤ 42; omega) ?_
        refine z_ret rfl rfl ?_
        exact hK _ _ _ _ (by repeat (first | exact zLf_rf _ | assumption | refine zLf_a ?_ (by decide) | refine zLf_f ?_ (by decide))) (by simp [zU]) (by simp [zU]; rfl) (by simp [zU]; rfl) (by omega) (by omega) (fun k h1 h2 h3 h4 => by simp [zU, h1, h2, h3, h4]) (fun k => by simp [zU])
  ·
    refine z_iload_n (pc2 := 8) rfl rfl rfl ?_
    refine z_callS (y2 := 180) (as := [_]) (rest := []) (pc2 := 11) rfl rfl rfl rfl ?_
    refine m_isLetter (by omega) (fun w37 w37r w37g w37h => ?_)
    show zB _ _ _ _ _ _ [_] _ _
    refine z_if_eq (t := 56) (pc2 := 14) rfl rfl rfl (by omega) (fun c38 => ?_) (fun c38 => ?_)
    ·
      refine z_aload_n (pc2 := 57) rfl rfl rfl ?_
      refine z_dup (pc2 := 58) rfl rfl rfl ?_
      refine z_getI (pc2 := 61) 0 rfl rfl rfl rfl rfl t56 ?_
      intro v39 e39 r39 k39
      clear e39
      clear k39
      refine z_aload_n (pc2 := 62) rfl rfl rfl ?_
      refine z_iload_n (pc2 := 63) rfl rfl rfl ?_
      refine z_callV (y2 := 191) (as := [_]) (rest := [_, _]) (pc2 := 66) rfl rfl rfl rfl t56 rfl ?_
      refine m_widthOf hT (by omega) (by assumption) (fun w40 => ?_)
      show zB _ _ _ _ _ _ [_, _, _] _ _
      refine z_iadd (pc2 := 67) rfl rfl ?_
      refine z_putI_any (pc2 := 70) rfl rfl rfl rfl rfl rfl t56 (fun _ _ => True.intro) (fun u41 u41r => ?_); clear u41r
      refine z_aload_n (pc2 := 71) rfl rfl rfl ?_
      refine z_dup (pc2 := 72) rfl rfl rfl ?_
      refine z_getI (pc2 := 75) 0 rfl rfl rfl rfl rfl t56 ?_
      intro v42 e42 r42 k42
      replace k42 : (0 : Int) ≤ v42 ∧ v42 ≤ 42 := k42; clear r42
      replace e42 : S = v42 := by rw [e42]; first | exact hS3 | exact Eq.symm hS3 | (simp [zU]; first | done | exact hS3 | exact Eq.symm hS3 | omega)
      subst e42
      refine z_iload_n (pc2 := 76) rfl rfl rfl ?_
      refine z_callS (y2 := 172) (as := [_]) (rest := [_, _]) (pc2 := 79) rfl rfl rfl rfl ?_
      refine z_inl ?_
      refine z_lv (lv2 := [(0, _)]) ⟨rfl, trivial⟩ ?_
      refine z_iload_n (pc2 := 1) rfl rfl rfl ?_
      refine z_bipush (pc2 := 3) rfl rfl (by decide) ?_
      refine z_and_7 (pc2 := 4) rfl rfl ?_
      refine z_iconst (pc2 := 5) rfl rfl ?_
      refine z_isub (pc2 := 6) rfl rfl ?_
      refine z_iret rfl rfl ?_
      show zB _ _ _ _ _ _ [_, _, _] _ _
      refine z_iconst (pc2 := 80) rfl rfl ?_
      refine z_icmp_ne (t := 87) (pc2 := 83) rfl rfl rfl (by omega) (by omega) (fun c44 => ?_) (fun c44 => ?_)
      ·
        refine z_iconst (pc2 := 88) rfl rfl ?_
        refine z_iadd (pc2 := 89) rfl rfl ?_
        refine z_putI (pc2 := 92) rfl rfl rfl rfl rfl rfl t56 (by omega) (by show (0 : Int) ≤ _ ∧ _ ≤ 42; omega) ?_
        refine z_aload_n (pc2 := 93) rfl rfl rfl ?_
        refine z_dup (pc2 := 94) rfl rfl rfl ?_
        refine z_getI (pc2 := 97) 0 rfl rfl rfl rfl rfl t56 ?_
        intro v45 e45 r45 k45
        replace k45 : (0 : Int) ≤ v45 ∧ v45 ≤ 126 := k45; clear r45
        replace e45 : H = v45 := by rw [e45]; first | exact hH3 | exact Eq.symm hH3 | (simp [zU]; first | done | exact hH3 | exact Eq.symm hH3 | omega)
        subst e45
        refine z_iload_n (pc2 := 98) rfl rfl rfl ?_
        refine z_callS (y2 := 172) (as := [_]) (rest := [_, _]) (pc2 := 101) rfl rfl rfl rfl ?_
        refine z_inl ?_
        refine z_lv (lv2 := [(0, _)]) ⟨rfl, trivial⟩ ?_
        refine z_iload_n (pc2 := 1) rfl rfl rfl ?_
        refine z_bipush (pc2 := 3) rfl rfl (by decide) ?_
        refine z_and_7 (pc2 := 4) rfl rfl ?_
        refine z_iconst (pc2 := 5) rfl rfl ?_
        refine z_isub (pc2 := 6) rfl rfl ?_
        refine z_iret rfl rfl ?_
        show zB _ _ _ _ _ _ [_, _, _] _ _
        refine z_iconst (pc2 := 102) rfl rfl ?_
        refine z_icmp_ne (t := 109) (pc2 := 105) rfl rfl rfl (by omega) (by omega) (fun c47 => ?_) (fun c47 => ?_)
        ·
          refine z_iload_n (pc2 := 110) rfl rfl rfl ?_
          refine z_callS (y2 := 172) (as := [_]) (rest := [_, _]) (pc2 := 113) rfl rfl rfl rfl ?_
          refine z_inl ?_
          refine z_lv (lv2 := [(0, _)]) ⟨rfl, trivial⟩ ?_
          refine z_iload_n (pc2 := 1) rfl rfl rfl ?_
          refine z_bipush (pc2 := 3) rfl rfl (by decide) ?_
          refine z_and_7 (pc2 := 4) rfl rfl ?_
          refine z_iconst (pc2 := 5) rfl rfl ?_
          refine z_isub (pc2 := 6) rfl rfl ?_
          refine z_iret rfl rfl ?_
          show zB _ _ _ _ _ _ [_, _, _] _ _
          refine z_iconst (pc2 := 114) rfl rfl ?_
          refine z_icmp_ne (t := 121) (pc2 := 117) rfl rfl rfl (by omega) (by omega) (fun c49 => ?_) (fun c49 => ?_)
          ·
            refine z_iconst (pc2 := 122) rfl rfl ?_
            refine z_iadd (pc2 := 123) rfl rfl ?_
            refine z_putI (pc2 := 126) rfl rfl rfl rfl rfl rfl t56 (by omega) (by show (0 : Int) ≤ _ ∧ _ ≤ 126; omega) ?_
            refine z_aload_n (pc2 := 127) rfl rfl rfl ?_
            refine z_getP (pc2 := 130) rfl rfl rfl rfl t56 ?_
            intro p50 p50e p50k; replace p50k : p50 = some 82 := p50k; clear p50e; subst p50k
            refine z_aload_n (pc2 := 131) rfl rfl rfl ?_
            refine z_getI (pc2 := 134) 0 rfl rfl rfl rfl rfl t56 ?_
            intro v51 e51 r51 k51
            replace k51 : (0 : Int) ≤ v51 ∧ v51 ≤ 42 := k51; clear r51
            replace e51 : L2 = v51 := by rw [e51]; first | exact hL3 | exact Eq.symm hL3 | (simp [zU]; first | done | exact hL3 | exact Eq.symm hL3 | omega)
            subst e51
            refine z_iload_n (pc2 := 135) rfl rfl rfl ?_
            refine z_iast (pc2 := 136) rfl rfl t82 (by omega) (by omega) (by decide) (by omega) (by show zGd _; first | assumption | exact zGd_0 | (unfold zGd; refine ⟨⟨?_, ?_⟩, ⟨?_, ?_⟩, ?_⟩ <;> omega)) ?_
            refine z_aload_n (pc2 := 137) rfl rfl rfl ?_
            refine z_dup (pc2 := 138) rfl rfl rfl ?_
            refine z_getI (pc2 := 141) 0 rfl rfl rfl rfl rfl t56 ?_
            intro v52 e52 r52 k52
            replace k52 : (0 : Int) ≤ v52 ∧ v52 ≤ 42 := k52; clear r52
            replace e52 : L2 = v52 := by rw [e52]; first | exact hL3 | exact Eq.symm hL3 | (simp [zU]; first | done | exact hL3 | exact Eq.symm hL3 | omega)
            subst e52
            refine z_iconst (pc2 := 142) rfl rfl ?_
            refine z_iadd (pc2 := 143) rfl rfl ?_
            refine z_putI (pc2 := 146) rfl rfl rfl rfl rfl rfl t56 (by omega) (by show (0 : Int) ≤ _ ∧ _ ≤ 42; omega) ?_
            refine z_ret rfl rfl ?_
            exact hK _ _ _ _ (by repeat (first | exact zLf_rf _ | assumption | refine zLf_a ?_ (by decide) | refine zLf_f ?_ (by decide))) (by simp [zU]) (by simp [zU]; rfl) (by simp [zU]; rfl) (by omega) (by omega) (fun k h1 h2 h3 h4 => by simp [zU, h1, h2, h3, h4]) (fun k => by simp [zU])
          ·
            refine z_iconst (pc2 := 118) rfl rfl ?_
            refine z_goto (pc2 := 122) rfl rfl ?_
            refine z_iadd (pc2 := 123) rfl rfl ?_
            refine z_putI (pc2 := 126) rfl rfl rfl rfl rfl rfl t56 (by omega) (by show (0 : Int) ≤ _ ∧ _ ≤ 126; omega) ?_
            refine z_aload_n (pc2 := 127) rfl rfl rfl ?_
            refine z_getP (pc2 := 130) rfl rfl rfl rfl t56 ?_
            intro p53 p53e p53k; replace p53k : p53 = some 82 := p53k; clear p53e; subst p53k
            refine z_aload_n (pc2 := 131) rfl rfl rfl ?_
            refine z_getI (pc2 := 134) 0 rfl rfl rfl rfl rfl t56 ?_
            intro v54 e54 r54 k54
            replace k54 : (0 : Int) ≤ v54 ∧ v54 ≤ 42 := k54; clear r54
            replace e54 : L2 = v54 := by rw [e54]; first | exact hL3 | exact Eq.symm hL3 | (simp [zU]; first | done | exact hL3 | exact Eq.symm hL3 | omega)
            subst e54
            refine z_iload_n (pc2 := 135) rfl rfl rfl ?_
            refine z_iast (pc2 := 136) rfl rfl t82 (by omega) (by omega) (by decide) (by omega) (by show zGd _; first | assumption | exact zGd_0 | (unfold zGd; refine ⟨⟨?_, ?_⟩, ⟨?_, ?_⟩, ?_⟩ <;> omega)) ?_
            refine z_aload_n (pc2 := 137) rfl rfl rfl ?_
            refine z_dup (pc2 := 138) rfl rfl rfl ?_
            refine z_getI (pc2 := 141) 0 rfl rfl rfl rfl rfl t56 ?_
            intro v55 e55 r55 k55
            replace k55 : (0 : Int) ≤ v55 ∧ v55 ≤ 42 := k55; clear r55
            replace e55 : L2 = v55 := by rw [e55]; first | exact hL3 | exact Eq.symm hL3 | (simp [zU]; first | done | exact hL3 | exact Eq.symm hL3 | omega)
            subst e55
            refine z_iconst (pc2 := 142) rfl rfl ?_
            refine z_iadd (pc2 := 143) rfl rfl ?_
            refine z_putI (pc2 := 146) rfl rfl rfl rfl rfl rfl t56 (by omega) (by show (0 : Int) ≤ _ ∧ _ ≤ 42; omega) ?_
            refine z_ret rfl rfl ?_
            exact hK _ _ _ _ (by repeat (first | exact zLf_rf _ | assumption | refine zLf_a ?_ (by decide) | refine zLf_f ?_ (by decide))) (by simp [zU]) (by simp [zU]; rfl) (by simp [zU]; rfl) (by omega) (by omega) (fun k h1 h2 h3 h4 => by simp [zU, h1, h2, h3, h4]) (fun k => by simp [zU])
        ·
          refine z_iconst (pc2 := 106) rfl rfl ?_
          refine z_goto (pc2 := 122) rfl rfl ?_
          refine z_iadd (pc2 := 123) rfl rfl ?_
          refine z_putI (pc2 := 126) rfl rfl rfl rfl rfl rfl t56 (by omega) (by show (0 : Int) ≤ _ ∧ _ ≤ 126; omega) ?_
          refine z_aload_n (pc2 := 127) rfl rfl rfl ?_
          refine z_getP (pc2 := 130) rfl rfl rfl rfl t56 ?_
          intro p56 p56e p56k; replace p56k : p56 = some 82 := p56k; clear p56e; subst p56k
          refine z_aload_n (pc2 := 131) rfl rfl rfl ?_
          refine z_getI (pc2 := 134) 0 rfl rfl rfl rfl rfl t56 ?_
          intro v57 e57 r57 k57
          replace k57 : (0 : Int) ≤ v57 ∧ v57 ≤ 42 := k57; clear r57
          replace e57 : L2 = v57 := by rw [e57]; first | exact hL3 | exact Eq.symm hL3 | (simp [zU]; first | done | exact hL3 | exact Eq.symm hL3 | omega)
          subst e57
          refine z_iload_n (pc2 := 135) rfl rfl rfl ?_
          refine z_iast (pc2 := 136) rfl rfl t82 (by omega) (by omega) (by decide) (by omega) (by show zGd _; first | assumption | exact zGd_0 | (unfold zGd; refine ⟨⟨?_, ?_⟩, ⟨?_, ?_⟩, ?_⟩ <;> omega)) ?_
          refine z_aload_n (pc2 := 137) rfl rfl rfl ?_
          refine z_dup (pc2 := 138) rfl rfl rfl ?_
          refine z_getI (pc2 := 141) 0 rfl rfl rfl rfl rfl t56 ?_
          intro v58 e58 r58 k58
          replace k58 : (0 : Int) ≤ v58 ∧ v58 ≤ 42 := k58; clear r58
          replace e58 : L2 = v58 := by rw [e58]; first | exact hL3 | exact Eq.symm hL3 | (simp [zU]; first | done | exact hL3 | exact Eq.symm hL3 | omega)
          subst e58
          refine z_iconst (pc2 := 142) rfl rfl ?_
          refine z_iadd (pc2 := 143) rfl rfl ?_
          refine z_putI (pc2 := 146) rfl rfl rfl rfl rfl rfl t56 (by omega) (by show (0 : Int) ≤ _ ∧ _ ≤ 42; omega) ?_
          refine z_ret rfl rfl ?_
          exact hK _ _ _ _ (by repeat (first | exact zLf_rf _ | assumption | refine zLf_a ?_ (by decide) | refine zLf_f ?_ (by decide))) (by simp [zU]) (by simp [zU]; rfl) (by simp [zU]; rfl) (by omega) (by omega) (fun k h1 h2 h3 h4 => by simp [zU, h1, h2, h3, h4]) (fun k => by simp [zU])
      ·
        refine z_iconst (pc2 := 84) rfl rfl ?_
        refine z_goto (pc2 := 88) rfl rfl ?_
        refine z_iadd (pc2 := 89) rfl rfl ?_
        refine z_putI (pc2 := 92) rfl rfl rfl rfl rfl rfl t56 (by omega) (by show (0 : Int) ≤ _ ∧ _ ≤ 42; omega) ?_
        refine z_aload_n (pc2 := 93) rfl rfl rfl ?_
        refine z_dup (pc2 := 94) rfl rfl rfl ?_
        refine z_getI (pc2 := 97) 0 rfl rfl rfl rfl rfl t56 ?_
        intro v59 e59 r59 k59
        replace k59 : (0 : Int) ≤ v59 ∧ v59 ≤ 126 := k59; clear r59
        replace e59 : H = v59 := by rw [e59]; first | exact hH3 | exact Eq.symm hH3 | (simp [zU]; first | done | exact hH3 | exact Eq.symm hH3 | omega)
        subst e59
        refine z_iload_n (pc2 := 98) rfl rfl rfl ?_
        refine z_callS (y2 := 172) (as := [_]) (rest := [_, _]) (pc2 := 101) rfl rfl rfl rfl ?_
        refine z_inl ?_
        refine z_lv (lv2 := [(0, _)]) ⟨rfl, trivial⟩ ?_
        refine z_iload_n (pc2 := 1) rfl rfl rfl ?_
        refine z_bipush (pc2 := 3) rfl rfl (by decide) ?_
        refine z_and_7 (pc2 := 4) rfl rfl ?_
        refine z_iconst (pc2 := 5) rfl rfl ?_
        refine z_isub (pc2 := 6) rfl rfl ?_
        refine z_iret rfl rfl ?_
        show zB _ _ _ _ _ _ [_, _, _] _ _
        refine z_iconst (pc2 := 102) rfl rfl ?_
        refine z_icmp_ne (t := 109) (pc2 := 105) rfl rfl rfl (by omega) (by omega) (fun c61 => ?_) (fun c61 => ?_)
        ·
          refine z_iload_n (pc2 := 110) rfl rfl rfl ?_
          refine z_callS (y2 := 172) (as := [_]) (rest := [_, _]) (pc2 := 113) rfl rfl rfl rfl ?_
          refine z_inl ?_
          refine z_lv (lv2 := [(0, _)]) ⟨rfl, trivial⟩ ?_
          refine z_iload_n (pc2 := 1) rfl rfl rfl ?_
          refine z_bipush (pc2 := 3) rfl rfl (by decide) ?_
          refine z_and_7 (pc2 := 4) rfl rfl ?_
          refine z_iconst (pc2 := 5) rfl rfl ?_
          refine z_isub (pc2 := 6) rfl rfl ?_
          refine z_iret rfl rfl ?_
          show zB _ _ _ _ _ _ [_, _, _] _ _
          refine z_iconst (pc2 := 114) rfl rfl ?_
          refine z_icmp_ne (t := 121) (pc2 := 117) rfl rfl rfl (by omega) (by omega) (fun c63 => ?_) (fun c63 => ?_)
          ·
            refine z_iconst (pc2 := 122) rfl rfl ?_
            refine z_iadd (pc2 := 123) rfl rfl ?_
            refine z_putI (pc2 := 126) rfl rfl rfl rfl rfl rfl t56 (by omega) (by show (0 : Int) ≤ _ ∧ _ ≤ 126; omega) ?_
            refine z_aload_n (pc2 := 127) rfl rfl rfl ?_
            refine z_getP (pc2 := 130) rfl rfl rfl rfl t56 ?_
            intro p64 p64e p64k; replace p64k : p64 = some 82 := p64k; clear p64e; subst p64k
            refine z_aload_n (pc2 := 131) rfl rfl rfl ?_
            refine z_getI (pc2 := 134) 0 rfl rfl rfl rfl rfl t56 ?_
            intro v65 e65 r65 k65
            replace k65 : (0 : Int) ≤ v65 ∧ v65 ≤ 42 := k65; clear r65
            replace e65 : L2 = v65 := by rw [e65]; first | exact hL3 | exact Eq.symm hL3 | (simp [zU]; first | done | exact hL3 | exact Eq.symm hL3 | omega)
            subst e65
            refine z_iload_n (pc2 := 135) rfl rfl rfl ?_
            refine z_iast (pc2 := 136) rfl rfl t82 (by omega) (by omega) (by decide) (by omega) (by show zGd _; first | assumption | exact zGd_0 | (unfold zGd; refine ⟨⟨?_, ?_⟩, ⟨?_, ?_⟩, ?_⟩ <;> omega)) ?_
            refine z_aload_n (pc2 := 137) rfl rfl rfl ?_
            refine z_dup (pc2 := 138) rfl rfl rfl ?_
            refine z_getI (pc2 := 141) 0 rfl rfl rfl rfl rfl t56 ?_
            intro v66 e66 r66 k66
            replace k66 : (0 : Int) ≤ v66 ∧ v66 ≤ 42 := k66; clear r66
            replace e66 : L2 = v66 := by rw [e66]; first | exact hL3 | exact Eq.symm hL3 | (simp [zU]; first | done | exact hL3 | exact Eq.symm hL3 | omega)
            subst e66
            refine z_iconst (pc2 := 142) rfl rfl ?_
            refine z_iadd (pc2 := 143) rfl rfl ?_
            refine z_putI (pc2 := 146) rfl rfl rfl rfl rfl rfl t56 (by omega) (by show (0 : Int) ≤ _ ∧ _ ≤ 42; omega) ?_
            refine z_ret rfl rfl ?_
            exact hK _ _ _ _ (by repeat (first | exact zLf_rf _ | assumption | refine zLf_a ?_ (by decide) | refine zLf_f ?_ (by decide))) (by simp [zU]) (by simp [zU]; rfl) (by simp [zU]; rfl) (by omega) (by omega) (fun k h1 h2 h3 h4 => by simp [zU, h1, h2, h3, h4]) (fun k => by simp [zU])
          ·
            refine z_iconst (pc2 := 118) rfl rfl ?_
            refine z_goto (pc2 := 122) rfl rfl ?_
            refine z_iadd (pc2 := 123) rfl rfl ?_
            refine z_putI (pc2 := 126) rfl rfl rfl rfl rfl rfl t56 (by omega) (by show (0 : Int) ≤ _ ∧ _ ≤ 126; omega) ?_
            refine z_aload_n (pc2 := 127) rfl rfl rfl ?_
            refine z_getP (pc2 := 130) rfl rfl rfl rfl t56 ?_
            intro p67 p67e p67k; replace p67k : p67 = some 82 := p67k; clear p67e; subst p67k
            refine z_aload_n (pc2 := 131) rfl rfl rfl ?_
            refine z_getI (pc2 := 134) 0 rfl rfl rfl rfl rfl t56 ?_
            intro v68 e68 r68 k68
            replace k68 : (0 : Int) ≤ v68 ∧ v68 ≤ 42 := k68; clear r68
            replace e68 : L2 = v68 := by rw [e68]; first | exact hL3 | exact Eq.symm hL3 | (simp [zU]; first | done | exact hL3 | exact Eq.symm hL3 | omega)
            subst e68
            refine z_iload_n (pc2 := 135) rfl rfl rfl ?_
            refine z_iast (pc2 := 136) rfl rfl t82 (by omega) (by omega) (by decide) (by omega) (by show zGd _; first | assumption | exact zGd_0 | (unfold zGd; refine ⟨⟨?_, ?_⟩, ⟨?_, ?_⟩, ?_⟩ <;> omega)) ?_
            refine z_aload_n (pc2 := 137) rfl rfl rfl ?_
            refine z_dup (pc2 := 138) rfl rfl rfl ?_
            refine z_getI (pc2 := 141) 0 rfl rfl rfl rfl rfl t56 ?_
            intro v69 e69 r69 k69
            replace k69 : (0 : Int) ≤ v69 ∧ v69 ≤ 42 := k69; clear r69
            replace e69 : L2 = v69 := by rw [e69]; first | exact hL3 | exact Eq.symm hL3 | (simp [zU]; first | done | exact hL3 | exact Eq.symm hL3 | omega)
            subst e69
            refine z_iconst (pc2 := 142) rfl rfl ?_
            refine z_iadd (pc2 := 143) rfl rfl ?_
            refine z_putI (pc2 := 146) rfl rfl rfl rfl rfl rfl t56 (by omega) (by show (0 : Int) ≤ _ ∧ _ ≤ 42; omega) ?_
            refine z_ret rfl rfl ?_
            exact hK _ _ _ _ (by repeat (first | exact zLf_rf _ | assumption | refine zLf_a ?_ (by decide) | refine zLf_f ?_ (by decide))) (by simp [zU]) (by simp [zU]; rfl) (by simp [zU]; rfl) (by omega) (by omega) (fun k h1 h2 h3 h4 => by simp [zU, h1, h2, h3, h4]) (fun k => by simp [zU])
        ·
          refine z_iconst (pc2 := 106) rfl rfl ?_
          refine z_goto (pc2 := 122) rfl rfl ?_
          refine z_iadd (pc2 := 123) rfl rfl ?_
          refine z_putI (pc2 := 126) rfl rfl rfl rfl rfl rfl t56 (by omega) (by show (0 : Int) ≤ _ ∧ _ ≤ 126; omega) ?_
          refine z_aload_n (pc2 := 127) rfl rfl rfl ?_
          refine z_getP (pc2 := 130) rfl rfl rfl rfl t56 ?_
          intro p70 p70e p70k; replace p70k : p70 = some 82 := p70k; clear p70e; subst p70k
          refine z_aload_n (pc2 := 131) rfl rfl rfl ?_
          refine z_getI (pc2 := 134) 0 rfl rfl rfl rfl rfl t56 ?_
          intro v71 e71 r71 k71
          replace k71 : (0 : Int) ≤ v71 ∧ v71 ≤ 42 := k71; clear r71
          replace e71 : L2 = v71 := by rw [e71]; first | exact hL3 | exact Eq.symm hL3 | (simp [zU]; first | done | exact hL3 | exact Eq.symm hL3 | omega)
          subst e71
          refine z_iload_n (pc2 := 135) rfl rfl rfl ?_
          refine z_iast (pc2 := 136) rfl rfl t82 (by omega) (by omega) (by decide) (by omega) (by show zGd _; first | assumption | exact zGd_0 | (unfold zGd; refine ⟨⟨?_, ?_⟩, ⟨?_, ?_⟩, ?_⟩ <;> omega)) ?_
          refine z_aload_n (pc2 := 137) rfl rfl rfl ?_
          refine z_dup (pc2 := 138) rfl rfl rfl ?_
          refine z_getI (pc2 := 141) 0 rfl rfl rfl rfl rfl t56 ?_
          intro v72 e72 r72 k72
          replace k72 : (0 : Int) ≤ v72 ∧ v72 ≤ 42 := k72; clear r72
          replace e72 : L2 = v72 := by rw [e72]; first | exact hL3 | exact Eq.symm hL3 | (simp [zU]; first | done | exact hL3 | exact Eq.symm hL3 | omega)
          subst e72
          refine z_iconst (pc2 := 142) rfl rfl ?_
          refine z_iadd (pc2 := 143) rfl rfl ?_
          refine z_putI (pc2 := 146) rfl rfl rfl rfl rfl rfl t56 (by omega) (by show (0 : Int) ≤ _ ∧ _ ≤ 42; omega) ?_
          refine z_ret rfl rfl ?_
          exact hK _ _ _ _ (by repeat (first | exact zLf_rf _ | assumption | refine zLf_a ?_ (by decide) | refine zLf_f ?_ (by decide))) (by simp [zU]) (by simp [zU]; rfl) (by simp [zU]; rfl) (by omega) (by omega) (fun k h1 h2 h3 h4 => by simp [zU, h1, h2, h3, h4]) (fun k => by simp [zU])
    ·
      refine z_aload_n (pc2 := 15) rfl rfl rfl ?_
      refine z_getP (pc2 := 18) rfl rfl rfl rfl t56 ?_
      intro p73 p73e p73k; replace p73k : p73 = some 82 := p73k; clear p73e; subst p73k
      refine z_aload_n (pc2 := 19) rfl rfl rfl ?_
      refine z_getI (pc2 := 22) 0 rfl rfl rfl rfl rfl t56 ?_
      intro v74 e74 r74 k74
      replace k74 : (0 : Int) ≤ v74 ∧ v74 ≤ 42 := k74; clear r74
      replace e74 : L2 = v74 := by rw [e74]; first | exact hL3 | exact Eq.symm hL3 | (simp [zU]; first | done | exact hL3 | exact Eq.symm hL3 | omega)
      subst e74
      refine z_iconst (pc2 := 23) rfl rfl ?_
      refine z_isub (pc2 := 24) rfl rfl ?_
      refine z_iald (pc2 := 25) rfl rfl t82 (by omega) (by omega) (by decide) ?_
      intro v75 e75 r75 k75
      clear e75
      replace k75 : zGd v75 := k75
      refine z_callS (y2 := 180) (as := [_]) (rest := []) (pc2 := 28) rfl rfl rfl rfl ?_
      refine m_isLetter (by omega) (fun w76 w76r w76g w76h => ?_)
      show zB _ _ _ _ _ _ [_] _ _
      refine z_if_eq (t := 56) (pc2 := 31) rfl rfl rfl (by omega) (fun c77 => ?_) (fun c77 => ?_)
      ·
        refine z_aload_n (pc2 := 57) rfl rfl rfl ?_
        refine z_dup (pc2 := 58) rfl rfl rfl ?_
        refine z_getI (pc2 := 61) 0 rfl rfl rfl rfl rfl t56 ?_
        intro v78 e78 r78 k78
        clear e78
        clear k78
        refine z_aload_n (pc2 := 62) rfl rfl rfl ?_
        refine z_iload_n (pc2 := 63) rfl rfl rfl ?_
        refine z_callV (y2 := 191) (as := [_]) (rest := [_, _]) (pc2 := 66) rfl rfl rfl rfl t56 rfl ?_
        refine m_widthOf hT (by omega) (by assumption) (fun w79 => ?_)
        show zB _ _ _ _ _ _ [_, _, _] _ _
        refine z_iadd (pc2 := 67) rfl rfl ?_
        refine z_putI_any (pc2 := 70) rfl rfl rfl rfl rfl rfl t56 (fun _ _ => True.intro) (fun u80 u80r => ?_); clear u80r
        refine z_aload_n (pc2 := 71) rfl rfl rfl ?_
        refine z_dup (pc2 := 72) rfl rfl rfl ?_
        refine z_getI (pc2 := 75) 0 rfl rfl rfl rfl rfl t56 ?_
        intro v81 e81 r81 k81
        replace k81 : (0 : Int) ≤ v81 ∧ v81 ≤ 42 := k81; clear r81
        replace e81 : S = v81 := by rw [e81]; first | exact hS3 | exact Eq.symm hS3 | (simp [zU]; first | done | exact hS3 | exact Eq.symm hS3 | omega)
        subst e81
        refine z_iload_n (pc2 := 76) rfl rfl rfl ?_
        refine z_callS (y2 := 172) (as := [_]) (rest := [_, _]) (pc2 := 79) rfl rfl rfl rfl ?_
        refine z_inl ?_
        refine z_lv (lv2 := [(0, _)]) ⟨rfl, trivial⟩ ?_
        refine z_iload_n (pc2 := 1) rfl rfl rfl ?_
        refine z_bipush (pc2 := 3) rfl rfl (by decide) ?_
        refine z_and_7 (pc2 := 4) rfl rfl ?_
        refine z_iconst (pc2 := 5) rfl rfl ?_
        refine z_isub (pc2 := 6) rfl rfl ?_
        refine z_iret rfl rfl ?_
        show zB _ _ _ _ _ _ [_, _, _] _ _
        refine z_iconst (pc2 := 80) rfl rfl ?_
        refine z_icmp_ne (t := 87) (pc2 := 83) rfl rfl rfl (by omega) (by omega) (fun c83 => ?_) (fun c83 => ?_)
        ·
          refine z_iconst (pc2 := 88) rfl rfl ?_
          refine z_iadd (pc2 := 89) rfl rfl ?_
          refine z_putI (pc2 := 92) rfl rfl rfl rfl rfl rfl t56 (by omega) (by show (0 : Int) ≤ _ ∧ _ ≤ 42; omega) ?_
          refine z_aload_n (pc2 := 93) rfl rfl rfl ?_
          refine z_dup (pc2 := 94) rfl rfl rfl ?_
          refine z_getI (pc2 := 97) 0 rfl rfl rfl rfl rfl t56 ?_
          intro v84 e84 r84 k84
          replace k84 : (0 : Int) ≤ v84 ∧ v84 ≤ 126 := k84; clear r84
          replace e84 : H = v84 := by rw [e84]; first | exact hH3 | exact Eq.symm hH3 | (simp [zU]; first | done | exact hH3 | exact Eq.symm hH3 | omega)
          subst e84
          refine z_iload_n (pc2 := 98) rfl rfl rfl ?_
          refine z_callS (y2 := 172) (as := [_]) (rest := [_, _]) (pc2 := 101) rfl rfl rfl rfl ?_
          refine z_inl ?_
          refine z_lv (lv2 := [(0, _)]) ⟨rfl, trivial⟩ ?_
          refine z_iload_n (pc2 := 1) rfl rfl rfl ?_
          refine z_bipush (pc2 := 3) rfl rfl (by decide) ?_
          refine z_and_7 (pc2 := 4) rfl rfl ?_
          refine z_iconst (pc2 := 5) rfl rfl ?_
          refine z_isub (pc2 := 6) rfl rfl ?_
          refine z_iret rfl rfl ?_
          show zB _ _ _ _ _ _ [_, _, _] _ _
          refine z_iconst (pc2 := 102) rfl rfl ?_
          refine z_icmp_ne (t := 109) (pc2 := 105) rfl rfl rfl (by omega) (by omega) (fun c86 => ?_) (fun c86 => ?_)
          ·
            refine z_iload_n (pc2 := 110) rfl rfl rfl ?_
            refine z_callS (y2 := 172) (as := [_]) (rest := [_, _]) (pc2 := 113) rfl rfl rfl rfl ?_
            refine z_inl ?_
            refine z_lv (lv2 := [(0, _)]) ⟨rfl, trivial⟩ ?_
            refine z_iload_n (pc2 := 1) rfl rfl rfl ?_
            refine z_bipush (pc2 := 3) rfl rfl (by decide) ?_
            refine z_and_7 (pc2 := 4) rfl rfl ?_
            refine z_iconst (pc2 := 5) rfl rfl ?_
            refine z_isub (pc2 := 6) rfl rfl ?_
            refine z_iret rfl rfl ?_
            show zB _ _ _ _ _ _ [_, _, _] _ _
            refine z_iconst (pc2 := 114) rfl rfl ?_
            refine z_icmp_ne (t := 121) (pc2 := 117) rfl rfl rfl (by omega) (by omega) (fun c88 => ?_) (fun c88 => ?_)
            ·
              refine z_iconst (pc2 := 122) rfl rfl ?_
              refine z_iadd (pc2 := 123) rfl rfl ?_
              refine z_putI (pc2 := 126) rfl rfl rfl rfl rfl rfl t56 (by omega) (by show (0 : Int) ≤ _ ∧ _ ≤ 126; omega) ?_
              refine z_aload_n (pc2 := 127) rfl rfl rfl ?_
              refine z_getP (pc2 := 130) rfl rfl rfl rfl t56 ?_
              intro p89 p89e p89k; replace p89k : p89 = some 82 := p89k; clear p89e; subst p89k
              refine z_aload_n (pc2 := 131) rfl rfl rfl ?_
              refine z_getI (pc2 := 134) 0 rfl rfl rfl rfl rfl t56 ?_
              intro v90 e90 r90 k90
              replace k90 : (0 : Int) ≤ v90 ∧ v90 ≤ 42 := k90; clear r90
              replace e90 : L2 = v90 := by rw [e90]; first | exact hL3 | exact Eq.symm hL3 | (simp [zU]; first | done | exact hL3 | exact Eq.symm hL3 | omega)
              subst e90
              refine z_iload_n (pc2 := 135) rfl rfl rfl ?_
              refine z_iast (pc2 := 136) rfl rfl t82 (by omega) (by omega) (by decide) (by omega) (by show zGd _; first | assumption | exact zGd_0 | (unfold zGd; refine ⟨⟨?_, ?_⟩, ⟨?_, ?_⟩, ?_⟩ <;> omega)) ?_
              refine z_aload_n (pc2 := 137) rfl rfl rfl ?_
              refine z_dup (pc2 := 138) rfl rfl rfl ?_
              refine z_getI (pc2 := 141) 0 rfl rfl rfl rfl rfl t56 ?_
              intro v91 e91 r91 k91
              replace k91 : (0 : Int) ≤ v91 ∧ v91 ≤ 42 := k91; clear r91
              replace e91 : L2 = v91 := by rw [e91]; first | exact hL3 | exact Eq.symm hL3 | (simp [zU]; first | done | exact hL3 | exact Eq.symm hL3 | omega)
              subst e91
              refine z_iconst (pc2 := 142) rfl rfl ?_
              refine z_iadd (pc2 := 143) rfl rfl ?_
              refine z_putI (pc2 := 146) rfl rfl rfl rfl rfl rfl t56 (by omega) (by show (0 : Int) ≤ _ ∧ _ ≤ 42; omega) ?_
              refine z_ret rfl rfl ?_
              exact hK _ _ _ _ (by repeat (first | exact zLf_rf _ | assumption | refine zLf_a ?_ (by decide) | refine zLf_f ?_ (by decide))) (by simp [zU]) (by simp [zU]; rfl) (by simp [zU]; rfl) (by omega) (by omega) (fun k h1 h2 h3 h4 => by simp [zU, h1, h2, h3, h4]) (fun k => by simp [zU])
            ·
              refine z_iconst (pc2 := 118) rfl rfl ?_
              refine z_goto (pc2 := 122) rfl rfl ?_
              refine z_iadd (pc2 := 123) rfl rfl ?_
              refine z_putI (pc2 := 126) rfl rfl rfl rfl rfl rfl t56 (by omega) (by show (0 : Int) ≤ _ ∧ _ ≤ 126; omega) ?_
              refine z_aload_n (pc2 := 127) rfl rfl rfl ?_
              refine z_getP (pc2 := 130) rfl rfl rfl rfl t56 ?_
              intro p92 p92e p92k; replace p92k : p92 = some 82 := p92k; clear p92e; subst p92k
              refine z_aload_n (pc2 := 131) rfl rfl rfl ?_
              refine z_getI (pc2 := 134) 0 rfl rfl rfl rfl rfl t56 ?_
              intro v93 e93 r93 k93
              replace k93 : (0 : Int) ≤ v93 ∧ v93 ≤ 42 := k93; clear r93
              replace e93 : L2 = v93 := by rw [e93]; first | exact hL3 | exact Eq.symm hL3 | (simp [zU]; first | done | exact hL3 | exact Eq.symm hL3 | omega)
              subst e93
              refine z_iload_n (pc2 := 135) rfl rfl rfl ?_
              refine z_iast (pc2 := 136) rfl rfl t82 (by omega) (by omega) (by decide) (by omega) (by show zGd _; first | assumption | exact zGd_0 | (unfold zGd; refine ⟨⟨?_, ?_⟩, ⟨?_, ?_⟩, ?_⟩ <;> omega)) ?_
              refine z_aload_n (pc2 := 137) rfl rfl rfl ?_
              refine z_dup (pc2 := 138) rfl rfl rfl ?_
              refine z_getI (pc2 := 141) 0 rfl rfl rfl rfl rfl t56 ?_
              intro v94 e94 r94 k94
              replace k94 : (0 : Int) ≤ v94 ∧ v94 ≤ 42 := k94; clear r94
              replace e94 : L2 = v94 := by rw [e94]; first | exact hL3 | exact Eq.symm hL3 | (simp [zU]; first | done | exact hL3 | exact Eq.symm hL3 | omega)
              subst e94
              refine z_iconst (pc2 := 142) rfl rfl ?_
              refine z_iadd (pc2 := 143) rfl rfl ?_
              refine z_putI (pc2 := 146) rfl rfl rfl rfl rfl rfl t56 (by omega) (by show (0 : Int) ≤ _ ∧ _ ≤ 42; omega) ?_
              refine z_ret rfl rfl ?_
              exact hK _ _ _ _ (by repeat (first | exact zLf_rf _ | assumption | refine zLf_a ?_ (by decide) | refine zLf_f ?_ (by decide))) (by simp [zU]) (by simp [zU]; rfl) (by simp [zU]; rfl) (by omega) (by omega) (fun k h1 h2 h3 h4 => by simp [zU, h1, h2, h3, h4]) (fun k => by simp [zU])
          ·
            refine z_iconst (pc2 := 106) rfl rfl ?_
            refine z_goto (pc2 := 122) rfl rfl ?_
            refine z_iadd (pc2 := 123) rfl rfl ?_
            refine z_putI (pc2 := 126) rfl rfl rfl rfl rfl rfl t56 (by omega) (by show (0 : Int) ≤ _ ∧ _ ≤ 126; omega) ?_
            refine z_aload_n (pc2 := 127) rfl rfl rfl ?_
            refine z_getP (pc2 := 130) rfl rfl rfl rfl t56 ?_
            intro p95 p95e p95k; replace p95k : p95 = some 82 := p95k; clear p95e; subst p95k
            refine z_aload_n (pc2 := 131) rfl rfl rfl ?_
            refine z_getI (pc2 := 134) 0 rfl rfl rfl rfl rfl t56 ?_
            intro v96 e96 r96 k96
            replace k96 : (0 : Int) ≤ v96 ∧ v96 ≤ 42 := k96; clear r96
            replace e96 : L2 = v96 := by rw [e96]; first | exact hL3 | exact Eq.symm hL3 | (simp [zU]; first | done | exact hL3 | exact Eq.symm hL3 | omega)
            subst e96
            refine z_iload_n (pc2 := 135) rfl rfl rfl ?_
            refine z_iast (pc2 := 136) rfl rfl t82 (by omega) (by omega) (by decide) (by omega) (by show zGd _; first | assumption | exact zGd_0 | (unfold zGd; refine ⟨⟨?_, ?_⟩, ⟨?_, ?_⟩, ?_⟩ <;> omega)) ?_
            refine z_aload_n (pc2 := 137) rfl rfl rfl ?_
            refine z_dup (pc2 := 138) rfl rfl rfl ?_
            refine z_getI (pc2 := 141) 0 rfl rfl rfl rfl rfl t56 ?_
            intro v97 e97 r97 k97
            replace k97 : (0 : Int) ≤ v97 ∧ v97 ≤ 42 := k97; clear r97
            replace e97 : L2 = v97 := by rw [e97]; first | exact hL3 | exact Eq.symm hL3 | (simp [zU]; first | done | exact hL3 | exact Eq.symm hL3 | omega)
            subst e97
            refine z_iconst (pc2 := 142) rfl rfl ?_
            refine z_iadd (pc2 := 143) rfl rfl ?_
            refine z_putI (pc2 := 146) rfl rfl rfl rfl rfl rfl t56 (by omega) (by show (0 : Int) ≤ _ ∧ _ ≤ 42; omega) ?_
            refine z_ret rfl rfl ?_
            exact hK _ _ _ _ (by repeat (first | exact zLf_rf _ | assumption | refine zLf_a ?_ (by decide) | refine zLf_f ?_ (by decide))) (by simp [zU]) (by simp [zU]; rfl) (by simp [zU]; rfl) (by omega) (by omega) (fun k h1 h2 h3 h4 => by simp [zU, h1, h2, h3, h4]) (fun k => by simp [zU])
        ·
          refine z_iconst (pc2 := 84) rfl rfl ?_
          refine z_goto (pc2 := 88) rfl rfl ?_
          refine z_iadd (pc2 := 89) rfl rfl ?_
          refine z_putI (pc2 := 92) rfl rfl rfl rfl rfl rfl t56 (by omega) (by show (0 : Int) ≤ _ ∧ _ ≤ 42; omega) ?_
          refine z_aload_n (pc2 := 93) rfl rfl rfl ?_
          refine z_dup (pc2 := 94) rfl rfl rfl ?_
          refine z_getI (pc2 := 97) 0 rfl rfl rfl rfl rfl t56 ?_
          intro v98 e98 r98 k98
          replace k98 : (0 : Int) ≤ v98 ∧ v98 ≤ 126 := k98; clear r98
          replace e98 : H = v98 := by rw [e98]; first | exact hH3 | exact Eq.symm hH3 | (simp [zU]; first | done | exact hH3 | exact Eq.symm hH3 | omega)
          subst e98
          refine z_iload_n (pc2 := 98) rfl rfl rfl ?_
          refine z_callS (y2 := 172) (as := [_]) (rest := [_, _]) (pc2 := 101) rfl rfl rfl rfl ?_
          refine z_inl ?_
          refine z_lv (lv2 := [(0, _)]) ⟨rfl, trivial⟩ ?_
          refine z_iload_n (pc2 := 1) rfl rfl rfl ?_
          refine z_bipush (pc2 := 3) rfl rfl (by decide) ?_
          refine z_and_7 (pc2 := 4) rfl rfl ?_
          refine z_iconst (pc2 := 5) rfl rfl ?_
          refine z_isub (pc2 := 6) rfl rfl ?_
          refine z_iret rfl rfl ?_
          show zB _ _ _ _ _ _ [_, _, _] _ _
          refine z_iconst (pc2 := 102) rfl rfl ?_
          refine z_icmp_ne (t := 109) (pc2 := 105) rfl rfl rfl (by omega) (by omega) (fun c100 => ?_) (fun c100 => ?_)
          ·
            refine z_iload_n (pc2 := 110) rfl rfl rfl ?_
            refine z_callS (y2 := 172) (as := [_]) (rest := [_, _]) (pc2 := 113) rfl rfl rfl rfl ?_
            refine z_inl ?_
            refine z_lv (lv2 := [(0, _)]) ⟨rfl, trivial⟩ ?_
            refine z_iload_n (pc2 := 1) rfl rfl rfl ?_
            refine z_bipush (pc2 := 3) rfl rfl (by decide) ?_
            refine z_and_7 (pc2 := 4) rfl rfl ?_
            refine z_iconst (pc2 := 5) rfl rfl ?_
            refine z_isub (pc2 := 6) rfl rfl ?_
            refine z_iret rfl rfl ?_
            show zB _ _ _ _ _ _ [_, _, _] _ _
            refine z_iconst (pc2 := 114) rfl rfl ?_
            refine z_icmp_ne (t := 121) (pc2 := 117) rfl rfl rfl (by omega) (by omega) (fun c102 => ?_) (fun c102 => ?_)
            ·
              refine z_iconst (pc2 := 122) rfl rfl ?_
              refine z_iadd (pc2 := 123) rfl rfl ?_
              refine z_putI (pc2 := 126) rfl rfl rfl rfl rfl rfl t56 (by omega) (by show (0 : Int) ≤ _ ∧ _ ≤ 126; omega) ?_
              refine z_aload_n (pc2 := 127) rfl rfl rfl ?_
              refine z_getP (pc2 := 130) rfl rfl rfl rfl t56 ?_
              intro p103 p103e p103k; replace p103k : p103 = some 82 := p103k; clear p103e; subst p103k
              refine z_aload_n (pc2 := 131) rfl rfl rfl ?_
              refine z_getI (pc2 := 134) 0 rfl rfl rfl rfl rfl t56 ?_
              intro v104 e104 r104 k104
              replace k104 : (0 : Int) ≤ v104 ∧ v104 ≤ 42 := k104; clear r104
              replace e104 : L2 = v104 := by rw [e104]; first | exact hL3 | exact Eq.symm hL3 | (simp [zU]; first | done | exact hL3 | exact Eq.symm hL3 | omega)
              subst e104
              refine z_iload_n (pc2 := 135) rfl rfl rfl ?_
              refine z_iast (pc2 := 136) rfl rfl t82 (by omega) (by omega) (by decide) (by omega) (by show zGd _; first | assumption | exact zGd_0 | (unfold zGd; refine ⟨⟨?_, ?_⟩, ⟨?_, ?_⟩, ?_⟩ <;> omega)) ?_
              refine z_aload_n (pc2 := 137) rfl rfl rfl ?_
              refine z_dup (pc2 := 138) rfl rfl rfl ?_
              refine z_getI (pc2 := 141) 0 rfl rfl rfl rfl rfl t56 ?_
              intro v105 e105 r105 k105
              replace k105 : (0 : Int) ≤ v105 ∧ v105 ≤ 42 := k105; clear r105
              replace e105 : L2 = v105 := by rw [e105]; first | exact hL3 | exact Eq.symm hL3 | (simp [zU]; first | done | exact hL3 | exact Eq.symm hL3 | omega)
              subst e105
              refine z_iconst (pc2 := 142) rfl rfl ?_
              refine z_iadd (pc2 := 143) rfl rfl ?_
              refine z_putI (pc2 := 146) rfl rfl rfl rfl rfl rfl t56 (by omega) (by show (0 : Int) ≤ _ ∧ _ ≤ 42; omega) ?_
              refine z_ret rfl rfl ?_
              exact hK _ _ _ _ (by repeat (first | exact zLf_rf _ | assumption | refine zLf_a ?_ (by decide) | refine zLf_f ?_ (by decide))) (by simp [zU]) (by simp [zU]; rfl) (by simp [zU]; rfl) (by omega) (by omega) (fun k h1 h2 h3 h4 => by simp [zU, h1, h2, h3, h4]) (fun k => by simp [zU])
            ·
              refine z_iconst (pc2 := 118) rfl rfl ?_
              refine z_goto (pc2 := 122) rfl rfl ?_
              refine z_iadd (pc2 := 123) rfl rfl ?_
              refine z_putI (pc2 := 126) rfl rfl rfl rfl rfl rfl t56 (by omega) (by show (0 : Int) ≤ _ ∧ _ ≤ 126; omega) ?_
              refine z_aload_n (pc2 := 127) rfl rfl rfl ?_
              refine z_getP (pc2 := 130) rfl rfl rfl rfl t56 ?_
              intro p106 p106e p106k; replace p106k : p106 = some 82 := p106k; clear p106e; subst p106k
              refine z_aload_n (pc2 := 131) rfl rfl rfl ?_
              refine z_getI (pc2 := 134) 0 rfl rfl rfl rfl rfl t56 ?_
              intro v107 e107 r107 k107
              replace k107 : (0 : Int) ≤ v107 ∧ v107 ≤ 42 := k107; clear r107
              replace e107 : L2 = v107 := by rw [e107]; first | exact hL3 | exact Eq.symm hL3 | (simp [zU]; first | done | exact hL3 | exact Eq.symm hL3 | omega)
              subst e107
              refine z_iload_n (pc2 := 135) rfl rfl rfl ?_
              refine z_iast (pc2 := 136) rfl rfl t82 (by omega) (by omega) (by decide) (by omega) (by show zGd _; first | assumption | exact zGd_0 | (unfold zGd; refine ⟨⟨?_, ?_⟩, ⟨?_, ?_⟩, ?_⟩ <;> omega)) ?_
              refine z_aload_n (pc2 := 137) rfl rfl rfl ?_
              refine z_dup (pc2 := 138) rfl rfl rfl ?_
              refine z_getI (pc2 := 141) 0 rfl rfl rfl rfl rfl t56 ?_
              intro v108 e108 r108 k108
              replace k108 : (0 : Int) ≤ v108 ∧ v108 ≤ 42 := k108; clear r108
              replace e108 : L2 = v108 := by rw [e108]; first | exact hL3 | exact Eq.symm hL3 | (simp [zU]; first | done | exact hL3 | exact Eq.symm hL3 | omega)
              subst e108
              refine z_iconst (pc2 := 142) rfl rfl ?_
              refine z_iadd (pc2 := 143) rfl rfl ?_
              refine z_putI (pc2 := 146) rfl rfl rfl rfl rfl rfl t56 (by omega) (by show (0 : Int) ≤ _ ∧ _ ≤ 42; omega) ?_
              refine z_ret rfl rfl ?_
              exact hK _ _ _ _ (by repeat (first | exact zLf_rf _ | assumption | refine zLf_a ?_ (by decide) | refine zLf_f ?_ (by decide))) (by simp [zU]) (by simp [zU]; rfl) (by simp [zU]; rfl) (by omega) (by omega) (fun k h1 h2 h3 h4 => by simp [zU, h1, h2, h3, h4]) (fun k => by simp [zU])
          ·
            refine z_iconst (pc2 := 106) rfl rfl ?_
            refine z_goto (pc2 := 122) rfl rfl ?_
            refine z_iadd (pc2 := 123) rfl rfl ?_
            refine z_putI (pc2 := 126) rfl rfl rfl rfl rfl rfl t56 (by omega) (by show (0 : Int) ≤ _ ∧ _ ≤ 126; omega) ?_
            refine z_aload_n (pc2 := 127) rfl rfl rfl ?_
            refine z_getP (pc2 := 130) rfl rfl rfl rfl t56 ?_
            intro p109 p109e p109k; replace p109k : p109 = some 82 := p109k; clear p109e; subst p109k
            refine z_aload_n (pc2 := 131) rfl rfl rfl ?_
            refine z_getI (pc2 := 134) 0 rfl rfl rfl rfl rfl t56 ?_
            intro v110 e110 r110 k110
            replace k110 : (0 : Int) ≤ v110 ∧ v110 ≤ 42 := k110; clear r110
            replace e110 : L2 = v110 := by rw [e110]; first | exact hL3 | exact Eq.symm hL3 | (simp [zU]; first | done | exact hL3 | exact Eq.symm hL3 | omega)
            subst e110
            refine z_iload_n (pc2 := 135) rfl rfl rfl ?_
            refine z_iast (pc2 := 136) rfl rfl t82 (by omega) (by omega) (by decide) (by omega) (by show zGd _; first | assumption | exact zGd_0 | (unfold zGd; refine ⟨⟨?_, ?_⟩, ⟨?_, ?_⟩, ?_⟩ <;> omega)) ?_
            refine z_aload_n (pc2 := 137) rfl rfl rfl ?_
            refine z_dup (pc2 := 138) rfl rfl rfl ?_
            refine z_getI (pc2 := 141) 0 rfl rfl rfl rfl rfl t56 ?_
            intro v111 e111 r111 k111
            replace k111 : (0 : Int) ≤ v111 ∧ v111 ≤ 42 := k111; clear r111
            replace e111 : L2 = v111 := by rw [e111]; first | exact hL3 | exact Eq.symm hL3 | (simp [zU]; first | done | exact hL3 | exact Eq.symm hL3 | omega)
            subst e111
            refine z_iconst (pc2 := 142) rfl rfl ?_
            refine z_iadd (pc2 := 143) rfl rfl ?_
            refine z_putI (pc2 := 146) rfl rfl rfl rfl rfl rfl t56 (by omega) (by show (0 : Int) ≤ _ ∧ _ ≤ 42; omega) ?_
            refine z_ret rfl rfl ?_
            exact hK _ _ _ _ (by repeat (first | exact zLf_rf _ | assumption | refine zLf_a ?_ (by decide) | refine zLf_f ?_ (by decide))) (by simp [zU]) (by simp [zU]; rfl) (by simp [zU]; rfl) (by omega) (by omega) (fun k h1 h2 h3 h4 => by simp [zU, h1, h2, h3, h4]) (fun k => by simp [zU])
      ·
        refine z_aload_n (pc2 := 32) rfl rfl rfl ?_
        refine z_dup (pc2 := 33) rfl rfl rfl ?_
        refine z_getI (pc2 := 36) 0 rfl rfl rfl rfl rfl t56 ?_
        intro v112 e112 r112 k112
        clear e112
        clear k112
        refine z_aload_n (pc2 := 37) rfl rfl rfl ?_
        refine z_aload_n (pc2 := 38) rfl rfl rfl ?_
        refine z_getP (pc2 := 41) rfl rfl rfl rfl t56 ?_
        intro p113 p113e p113k; replace p113k : p113 = some 82 := p113k; clear p113e; subst p113k
        refine z_aload_n (pc2 := 42) rfl rfl rfl ?_
        refine z_getI (pc2 := 45) 0 rfl rfl rfl rfl rfl t56 ?_
        intro v114 e114 r114 k114
        replace k114 : (0 : Int) ≤ v114 ∧ v114 ≤ 42 := k114; clear r114
        replace e114 : L2 = v114 := by rw [e114]; first | exact hL3 | exact Eq.symm hL3 | (simp [zU]; first | done | exact hL3 | exact Eq.symm hL3 | omega)
        subst e114
        refine z_iconst (pc2 := 46) rfl rfl ?_
        refine z_isub (pc2 := 47) rfl rfl ?_
        refine z_iald (pc2 := 48) rfl rfl t82 (by omega) (by omega) (by decide) ?_
        intro v115 e115 r115 k115
        clear e115
        replace k115 : zGd v115 := k115
        refine z_iload_n (pc2 := 49) rfl rfl rfl ?_
        refine z_callV (y2 := 227) (as := [_, _]) (rest := [_, _]) (pc2 := 52) rfl rfl rfl rfl t56 rfl ?_
        refine m_kernOf hT (by omega) (by omega) (by assumption) (by assumption) (fun w116 => ?_)
        show zB _ _ _ _ _ _ [_, _, _] _ _
        refine z_iadd (pc2 := 53) rfl rfl ?_
        refine z_putI_any (pc2 := 56) rfl rfl rfl rfl rfl rfl t56 (fun _ _ => True.intro) (fun u117 u117r => ?_); clear u117r
        refine z_aload_n (pc2 := 57) rfl rfl rfl ?_
        refine z_dup (pc2 := 58) rfl rfl rfl ?_
        refine z_getI (pc2 := 61) 0 rfl rfl rfl rfl rfl t56 ?_
        intro v118 e118 r118 k118
        clear e118
        clear k118
        refine z_aload_n (pc2 := 62) rfl rfl rfl ?_
        refine z_iload_n (pc2 := 63) rfl rfl rfl ?_
        refine z_callV (y2 := 191) (as := [_]) (rest := [_, _]) (pc2 := 66) rfl rfl rfl rfl t56 rfl ?_
        refine m_widthOf hT (by omega) (by assumption) (fun w119 => ?_)
        show zB _ _ _ _ _ _ [_, _, _] _ _
        refine z_iadd (pc2 := 67) rfl rfl ?_
        refine z_putI_any (pc2 := 70) rfl rfl rfl rfl rfl rfl t56 (fun _ _ => True.intro) (fun u120 u120r => ?_); clear u120r
        refine z_aload_n (pc2 := 71) rfl rfl rfl ?_
        refine z_dup (pc2 := 72) rfl rfl rfl ?_
        refine z_getI (pc2 := 75) 0 rfl rfl rfl rfl rfl t56 ?_
        intro v121 e121 r121 k121
        replace k121 : (0 : Int) ≤ v121 ∧ v121 ≤ 42 := k121; clear r121
        replace e121 : S = v121 := by rw [e121]; first | exact hS3 | exact Eq.symm hS3 | (simp [zU]; first | done | exact hS3 | exact Eq.symm hS3 | omega)
        subst e121
        refine z_iload_n (pc2 := 76) rfl rfl rfl ?_
        refine z_callS (y2 := 172) (as := [_]) (rest := [_, _]) (pc2 := 79) rfl rfl rfl rfl ?_
        refine z_inl ?_
        refine z_lv (lv2 := [(0, _)]) ⟨rfl, trivial⟩ ?_
        refine z_iload_n (pc2 := 1) rfl rfl rfl ?_
        refine z_bipush (pc2 := 3) rfl rfl (by decide) ?_
        refine z_and_7 (pc2 := 4) rfl rfl ?_
        refine z_iconst (pc2 := 5) rfl rfl ?_
        refine z_isub (pc2 := 6) rfl rfl ?_
        refine z_iret rfl rfl ?_
        show zB _ _ _ _ _ _ [_, _, _] _ _
        refine z_iconst (pc2 := 80) rfl rfl ?_
        refine z_icmp_ne (t := 87) (pc2 := 83) rfl rfl rfl (by omega) (by omega) (fun c123 => ?_) (fun c123 => ?_)
        ·
          refine z_iconst (pc2 := 88) rfl rfl ?_
          refine z_iadd (pc2 := 89) rfl rfl ?_
          refine z_putI (pc2 := 92) rfl rfl rfl rfl rfl rfl t56 (by omega) (by show (0 : Int) ≤ _ ∧ _ ≤ 42; omega) ?_
          refine z_aload_n (pc2 := 93) rfl rfl rfl ?_
          refine z_dup (pc2 := 94) rfl rfl rfl ?_
          refine z_getI (pc2 := 97) 0 rfl rfl rfl rfl rfl t56 ?_
          intro v124 e124 r124 k124
          replace k124 : (0 : Int) ≤ v124 ∧ v124 ≤ 126 := k124; clear r124
          replace e124 : H = v124 := by rw [e124]; first | exact hH3 | exact Eq.symm hH3 | (simp [zU]; first | done | exact hH3 | exact Eq.symm hH3 | omega)
          subst e124
          refine z_iload_n (pc2 := 98) rfl rfl rfl ?_
          refine z_callS (y2 := 172) (as := [_]) (rest := [_, _]) (pc2 := 101) rfl rfl rfl rfl ?_
          refine z_inl ?_
          refine z_lv (lv2 := [(0, _)]) ⟨rfl, trivial⟩ ?_
          refine z_iload_n (pc2 := 1) rfl rfl rfl ?_
          refine z_bipush (pc2 := 3) rfl rfl (by decide) ?_
          refine z_and_7 (pc2 := 4) rfl rfl ?_
          refine z_iconst (pc2 := 5) rfl rfl ?_
          refine z_isub (pc2 := 6) rfl rfl ?_
          refine z_iret rfl rfl ?_
          show zB _ _ _ _ _ _ [_, _, _] _ _
          refine z_iconst (pc2 := 102) rfl rfl ?_
          refine z_icmp_ne (t := 109) (pc2 := 105) rfl rfl rfl (by omega) (by omega) (fun c126 => ?_) (fun c126 => ?_)
          ·
            refine z_iload_n (pc2 := 110) rfl rfl rfl ?_
            refine z_callS (y2 := 172) (as := [_]) (rest := [_, _]) (pc2 := 113) rfl rfl rfl rfl ?_
            refine z_inl ?_
            refine z_lv (lv2 := [(0, _)]) ⟨rfl, trivial⟩ ?_
            refine z_iload_n (pc2 := 1) rfl rfl rfl ?_
            refine z_bipush (pc2 := 3) rfl rfl (by decide) ?_
            refine z_and_7 (pc2 := 4) rfl rfl ?_
            refine z_iconst (pc2 := 5) rfl rfl ?_
            refine z_isub (pc2 := 6) rfl rfl ?_
            refine z_iret rfl rfl ?_
            show zB _ _ _ _ _ _ [_, _, _] _ _
            refine z_iconst (pc2 := 114) rfl rfl ?_
            refine z_icmp_ne (t := 121) (pc2 := 117) rfl rfl rfl (by omega) (by omega) (fun c128 => ?_) (fun c128 => ?_)
            ·
              refine z_iconst (pc2 := 122) rfl rfl ?_
              refine z_iadd (pc2 := 123) rfl rfl ?_
              refine z_putI (pc2 := 126) rfl rfl rfl rfl rfl rfl t56 (by omega) (by show (0 : Int) ≤ _ ∧ _ ≤ 126; omega) ?_
              refine z_aload_n (pc2 := 127) rfl rfl rfl ?_
              refine z_getP (pc2 := 130) rfl rfl rfl rfl t56 ?_
              intro p129 p129e p129k; replace p129k : p129 = some 82 := p129k; clear p129e; subst p129k
              refine z_aload_n (pc2 := 131) rfl rfl rfl ?_
              refine z_getI (pc2 := 134) 0 rfl rfl rfl rfl rfl t56 ?_
              intro v130 e130 r130 k130
              replace k130 : (0 : Int) ≤ v130 ∧ v130 ≤ 42 := k130; clear r130
              replace e130 : L2 = v130 := by rw [e130]; first | exact hL3 | exact Eq.symm hL3 | (simp [zU]; first | done | exact hL3 | exact Eq.symm hL3 | omega)
              subst e130
              refine z_iload_n (pc2 := 135) rfl rfl rfl ?_
              refine z_iast (pc2 := 136) rfl rfl t82 (by omega) (by omega) (by decide) (by omega) (by show zGd _; first | assumption | exact zGd_0 | (unfold zGd; refine ⟨⟨?_, ?_⟩, ⟨?_, ?_⟩, ?_⟩ <;> omega)) ?_
              refine z_aload_n (pc2 := 137) rfl rfl rfl ?_
              refine z_dup (pc2 := 138) rfl rfl rfl ?_
              refine z_getI (pc2 := 141) 0 rfl rfl rfl rfl rfl t56 ?_
              intro v131 e131 r131 k131
              replace k131 : (0 : Int) ≤ v131 ∧ v131 ≤ 42 := k131; clear r131
              replace e131 : L2 = v131 := by rw [e131]; first | exact hL3 | exact Eq.symm hL3 | (simp [zU]; first | done | exact hL3 | exact Eq.symm hL3 | omega)
              subst e131
              refine z_iconst (pc2 := 142) rfl rfl ?_
              refine z_iadd (pc2 := 143) rfl rfl ?_
              refine z_putI (pc2 := 146) rfl rfl rfl rfl rfl rfl t56 (by omega) (by show (0 : Int) ≤ _ ∧ _ ≤ 42; omega) ?_
              refine z_ret rfl rfl ?_
              exact hK _ _ _ _ (by repeat (first | exact zLf_rf _ | assumption | refine zLf_a ?_ (by decide) | refine zLf_f ?_ (by decide))) (by simp [zU]) (by simp [zU]; rfl) (by simp [zU]; rfl) (by omega) (by omega) (fun k h1 h2 h3 h4 => by simp [zU, h1, h2, h3, h4]) (fun k => by simp [zU])
            ·
              refine z_iconst (pc2 := 118) rfl rfl ?_
              refine z_goto (pc2 := 122) rfl rfl ?_
              refine z_iadd (pc2 := 123) rfl rfl ?_
              refine z_putI (pc2 := 126) rfl rfl rfl rfl rfl rfl t56 (by omega) (by show (0 : Int) ≤ _ ∧ _ ≤ 126; omega) ?_
              refine z_aload_n (pc2 := 127) rfl rfl rfl ?_
              refine z_getP (pc2 := 130) rfl rfl rfl rfl t56 ?_
              intro p132 p132e p132k; replace p132k : p132 = some 82 := p132k; clear p132e; subst p132k
              refine z_aload_n (pc2 := 131) rfl rfl rfl ?_
              refine z_getI (pc2 := 134) 0 rfl rfl rfl rfl rfl t56 ?_
              intro v133 e133 r133 k133
              replace k133 : (0 : Int) ≤ v133 ∧ v133 ≤ 42 := k133; clear r133
              replace e133 : L2 = v133 := by rw [e133]; first | exact hL3 | exact Eq.symm hL3 | (simp [zU]; first | done | exact hL3 | exact Eq.symm hL3 | omega)
              subst e133
              refine z_iload_n (pc2 := 135) rfl rfl rfl ?_
              refine z_iast (pc2 := 136) rfl rfl t82 (by omega) (by omega) (by decide) (by omega) (by show zGd _; first | assumption | exact zGd_0 | (unfold zGd; refine ⟨⟨?_, ?_⟩, ⟨?_, ?_⟩, ?_⟩ <;> omega)) ?_
              refine z_aload_n (pc2 := 137) rfl rfl rfl ?_
              refine z_dup (pc2 := 138) rfl rfl rfl ?_
              refine z_getI (pc2 := 141) 0 rfl rfl rfl rfl rfl t56 ?_
              intro v134 e134 r134 k134
              replace k134 : (0 : Int) ≤ v134 ∧ v134 ≤ 42 := k134; clear r134
              replace e134 : L2 = v134 := by rw [e134]; first | exact hL3 | exact Eq.symm hL3 | (simp [zU]; first | done | exact hL3 | exact Eq.symm hL3 | omega)
              subst e134
              refine z_iconst (pc2 := 142) rfl rfl ?_
              refine z_iadd (pc2 := 143) rfl rfl ?_
              refine z_putI (pc2 := 146) rfl rfl rfl rfl rfl rfl t56 (by omega) (by show (0 : Int) ≤ _ ∧ _ ≤ 42; omega) ?_
              refine z_ret rfl rfl ?_
              exact hK _ _ _ _ (by repeat (first | exact zLf_rf _ | assumption | refine zLf_a ?_ (by decide) | refine zLf_f ?_ (by decide))) (by simp [zU]) (by simp [zU]; rfl) (by simp [zU]; rfl) (by omega) (by omega) (fun k h1 h2 h3 h4 => by simp [zU, h1, h2, h3, h4]) (fun k => by simp [zU])
          ·
            refine z_iconst (pc2 := 106) rfl rfl ?_
            refine z_goto (pc2 := 122) rfl rfl ?_
            refine z_iadd (pc2 := 123) rfl rfl ?_
            refine z_putI (pc2 := 126) rfl rfl rfl rfl rfl rfl t56 (by omega) (by show (0 : Int) ≤ _ ∧ _ ≤ 126; omega) ?_
            refine z_aload_n (pc2 := 127) rfl rfl rfl ?_
            refine z_getP (pc2 := 130) rfl rfl rfl rfl t56 ?_
            intro p135 p135e p135k; replace p135k : p135 = some 82 := p135k; clear p135e; subst p135k
            refine z_aload_n (pc2 := 131) rfl rfl rfl ?_
            refine z_getI (pc2 := 134) 0 rfl rfl rfl rfl rfl t56 ?_
            intro v136 e136 r136 k136
            replace k136 : (0 : Int) ≤ v136 ∧ v136 ≤ 42 := k136; clear r136
            replace e136 : L2 = v136 := by rw [e136]; first | exact hL3 | exact Eq.symm hL3 | (simp [zU]; first | done | exact hL3 | exact Eq.symm hL3 | omega)
            subst e136
            refine z_iload_n (pc2 := 135) rfl rfl rfl ?_
            refine z_iast (pc2 := 136) rfl rfl t82 (by omega) (by omega) (by decide) (by omega) (by show zGd _; first | assumption | exact zGd_0 | (unfold zGd; refine ⟨⟨?_, ?_⟩, ⟨?_, ?_⟩, ?_⟩ <;> omega)) ?_
            refine z_aload_n (pc2 := 137) rfl rfl rfl ?_
            refine z_dup (pc2 := 138) rfl rfl rfl ?_
            refine z_getI (pc2 := 141) 0 rfl rfl rfl rfl rfl t56 ?_
            intro v137 e137 r137 k137
            replace k137 : (0 : Int) ≤ v137 ∧ v137 ≤ 42 := k137; clear r137
            replace e137 : L2 = v137 := by rw [e137]; first | exact hL3 | exact Eq.symm hL3 | (simp [zU]; first | done | exact hL3 | exact Eq.symm hL3 | omega)
            subst e137
            refine z_iconst (pc2 := 142) rfl rfl ?_
            refine z_iadd (pc2 := 143) rfl rfl ?_
            refine z_putI (pc2 := 146) rfl rfl rfl rfl rfl rfl t56 (by omega) (by show (0 : Int) ≤ _ ∧ _ ≤ 42; omega) ?_
            refine z_ret rfl rfl ?_
            exact hK _ _ _ _ (by repeat (first | exact zLf_rf _ | assumption | refine zLf_a ?_ (by decide) | refine zLf_f ?_ (by decide))) (by simp [zU]) (by simp [zU]; rfl) (by simp [zU]; rfl) (by omega) (by omega) (fun k h1 h2 h3 h4 => by simp [zU, h1, h2, h3, h4]) (fun k => by simp [zU])
        ·
          refine z_iconst (pc2 := 84) rfl rfl ?_
          refine z_goto (pc2 := 88) rfl rfl ?_
          refine z_iadd (pc2 := 89) rfl rfl ?_
          refine z_putI (pc2 := 92) rfl rfl rfl rfl rfl rfl t56 (by omega) (by show (0 : Int) ≤ _ ∧ _ ≤ 42; omega) ?_
          refine z_aload_n (pc2 := 93) rfl rfl rfl ?_
          refine z_dup (pc2 := 94) rfl rfl rfl ?_
          refine z_getI (pc2 := 97) 0 rfl rfl rfl rfl rfl t56 ?_
          intro v138 e138 r138 k138
          replace k138 : (0 : Int) ≤ v138 ∧ v138 ≤ 126 := k138; clear r138
          replace e138 : H = v138 := by rw [e138]; first | exact hH3 | exact Eq.symm hH3 | (simp [zU]; first | done | exact hH3 | exact Eq.symm hH3 | omega)
          subst e138
          refine z_iload_n (pc2 := 98) rfl rfl rfl ?_
          refine z_callS (y2 := 172) (as := [_]) (rest := [_, _]) (pc2 := 101) rfl rfl rfl rfl ?_
          refine z_inl ?_
          refine z_lv (lv2 := [(0, _)]) ⟨rfl, trivial⟩ ?_
          refine z_iload_n (pc2 := 1) rfl rfl rfl ?_
          refine z_bipush (pc2 := 3) rfl rfl (by decide) ?_
          refine z_and_7 (pc2 := 4) rfl rfl ?_
          refine z_iconst (pc2 := 5) rfl rfl ?_
          refine z_isub (pc2 := 6) rfl rfl ?_
          refine z_iret rfl rfl ?_
          show zB _ _ _ _ _ _ [_, _, _] _ _
          refine z_iconst (pc2 := 102) rfl rfl ?_
          refine z_icmp_ne (t := 109) (pc2 := 105) rfl rfl rfl (by omega) (by omega) (fun c140 => ?_) (fun c140 => ?_)
          ·
            refine z_iload_n (pc2 := 110) rfl rfl rfl ?_
            refine z_callS (y2 := 172) (as := [_]) (rest := [_, _]) (pc2 := 113) rfl rfl rfl rfl ?_
            refine z_inl ?_
            refine z_lv (lv2 := [(0, _)]) ⟨rfl, trivial⟩ ?_
            refine z_iload_n (pc2 := 1) rfl rfl rfl ?_
            refine z_bipush (pc2 := 3) rfl rfl (by decide) ?_
            refine z_and_7 (pc2 := 4) rfl rfl ?_
            refine z_iconst (pc2 := 5) rfl rfl ?_
            refine z_isub (pc2 := 6) rfl rfl ?_
            refine z_iret rfl rfl ?_
            show zB _ _ _ _ _ _ [_, _, _] _ _
            refine z_iconst (pc2 := 114) rfl rfl ?_
            refine z_icmp_ne (t := 121) (pc2 := 117) rfl rfl rfl (by omega) (by omega) (fun c142 => ?_) (fun c142 => ?_)
            ·
              refine z_iconst (pc2 := 122) rfl rfl ?_
              refine z_iadd (pc2 := 123) rfl rfl ?_
              refine z_putI (pc2 := 126) rfl rfl rfl rfl rfl rfl t56 (by omega) (by show (0 : Int) ≤ _ ∧ _ ≤ 126; omega) ?_
              refine z_aload_n (pc2 := 127) rfl rfl rfl ?_
              refine z_getP (pc2 := 130) rfl rfl rfl rfl t56 ?_
              intro p143 p143e p143k; replace p143k : p143 = some 82 := p143k; clear p143e; subst p143k
              refine z_aload_n (pc2 := 131) rfl rfl rfl ?_
              refine z_getI (pc2 := 134) 0 rfl rfl rfl rfl rfl t56 ?_
              intro v144 e144 r144 k144
              replace k144 : (0 : Int) ≤ v144 ∧ v144 ≤ 42 := k144; clear r144
              replace e144 : L2 = v144 := by rw [e144]; first | exact hL3 | exact Eq.symm hL3 | (simp [zU]; first | done | exact hL3 | exact Eq.symm hL3 | omega)
              subst e144
              refine z_iload_n (pc2 := 135) rfl rfl rfl ?_
              refine z_iast (pc2 := 136) rfl rfl t82 (by omega) (by omega) (by decide) (by omega) (by show zGd _; first | assumption | exact zGd_0 | (unfold zGd; refine ⟨⟨?_, ?_⟩, ⟨?_, ?_⟩, ?_⟩ <;> omega)) ?_
              refine z_aload_n (pc2 := 137) rfl rfl rfl ?_
              refine z_dup (pc2 := 138) rfl rfl rfl ?_
              refine z_getI (pc2 := 141) 0 rfl rfl rfl rfl rfl t56 ?_
              intro v145 e145 r145 k145
              replace k145 : (0 : Int) ≤ v145 ∧ v145 ≤ 42 := k145; clear r145
              replace e145 : L2 = v145 := by rw [e145]; first | exact hL3 | exact Eq.symm hL3 | (simp [zU]; first | done | exact hL3 | exact Eq.symm hL3 | omega)
              subst e145
              refine z_iconst (pc2 := 142) rfl rfl ?_
              refine z_iadd (pc2 := 143) rfl rfl ?_
              refine z_putI (pc2 := 146) rfl rfl rfl rfl rfl rfl t56 (by omega) (by show (0 : Int) ≤ _ ∧ _ ≤ 42; omega) ?_
              refine z_ret rfl rfl ?_
              exact hK _ _ _ _ (by repeat (first | exact zLf_rf _ | assumption | refine zLf_a ?_ (by decide) | refine zLf_f ?_ (by decide))) (by simp [zU]) (by simp [zU]; rfl) (by simp [zU]; rfl) (by omega) (by omega) (fun k h1 h2 h3 h4 => by simp [zU, h1, h2, h3, h4]) (fun k => by simp [zU])
            ·
              refine z_iconst (pc2 := 118) rfl rfl ?_
              refine z_goto (pc2 := 122) rfl rfl ?_
              refine z_iadd (pc2 := 123) rfl rfl ?_
              refine z_putI (pc2 := 126) rfl rfl rfl rfl rfl rfl t56 (by omega) (by show (0 : Int) ≤ _ ∧ _ ≤ 126; omega) ?_
              refine z_aload_n (pc2 := 127) rfl rfl rfl ?_
              refine z_getP (pc2 := 130) rfl rfl rfl rfl t56 ?_
              intro p146 p146e p146k; replace p146k : p146 = some 82 := p146k; clear p146e; subst p146k
              refine z_aload_n (pc2 := 131) rfl rfl rfl ?_
              refine z_getI (pc2 := 134) 0 rfl rfl rfl rfl rfl t56 ?_
              intro v147 e147 r147 k147
              replace k147 : (0 : Int) ≤ v147 ∧ v147 ≤ 42 := k147; clear r147
              replace e147 : L2 = v147 := by rw [e147]; first | exact hL3 | exact Eq.symm hL3 | (simp [zU]; first | done | exact hL3 | exact Eq.symm hL3 | omega)
              subst e147
              refine z_iload_n (pc2 := 135) rfl rfl rfl ?_
              refine z_iast (pc2 := 136) rfl rfl t82 (by omega) (by omega) (by decide) (by omega) (by show zGd _; first | assumption | exact zGd_0 | (unfold zGd; refine ⟨⟨?_, ?_⟩, ⟨?_, ?_⟩, ?_⟩ <;> omega)) ?_
              refine z_aload_n (pc2 := 137) rfl rfl rfl ?_
              refine z_dup (pc2 := 138) rfl rfl rfl ?_
              refine z_getI (pc2 := 141) 0 rfl rfl rfl rfl rfl t56 ?_
              intro v148 e148 r148 k148
              replace k148 : (0 : Int) ≤ v148 ∧ v148 ≤ 42 := k148; clear r148
              replace e148 : L2 = v148 := by rw [e148]; first | exact hL3 | exact Eq.symm hL3 | (simp [zU]; first | done | exact hL3 | exact Eq.symm hL3 | omega)
              subst e148
              refine z_iconst (pc2 := 142) rfl rfl ?_
              refine z_iadd (pc2 := 143) rfl rfl ?_
              refine z_putI (pc2 := 146) rfl rfl rfl rfl rfl rfl t56 (by omega) (by show (0 : Int) ≤ _ ∧ _ ≤ 42; omega) ?_
              refine z_ret rfl rfl ?_
              exact hK _ _ _ _ (by repeat (first | exact zLf_rf _ | assumption | refine zLf_a ?_ (by decide) | refine zLf_f ?_ (by decide))) (by simp [zU]) (by simp [zU]; rfl) (by simp [zU]; rfl) (by omega) (by omega) (fun k h1 h2 h3 h4 => by simp [zU, h1, h2, h3, h4]) (fun k => by simp [zU])
          ·
            refine z_iconst (pc2 := 106) rfl rfl ?_
            refine z_goto (pc2 := 122) rfl rfl ?_
            refine z_iadd (pc2 := 123) rfl rfl ?_
            refine z_putI (pc2 := 126) rfl rfl rfl rfl rfl rfl t56 (by omega) (by show (0 : Int) ≤ _ ∧ _ ≤ 126; omega) ?_
            refine z_aload_n (pc2 := 127) rfl rfl rfl ?_
            refine z_getP (pc2 := 130) rfl rfl rfl rfl t56 ?_
            intro p149 p149e p149k; replace p149k : p149 = some 82 := p149k; clear p149e; subst p149k
            refine z_aload_n (pc2 := 131) rfl rfl rfl ?_
            refine z_getI (pc2 := 134) 0 rfl rfl rfl rfl rfl t56 ?_
            intro v150 e150 r150 k150
            replace k150 : (0 : Int) ≤ v150 ∧ v150 ≤ 42 := k150; clear r150
            replace e150 : L2 = v150 := by rw [e150]; first | exact hL3 | exact Eq.symm hL3 | (simp [zU]; first | done | exact hL3 | exact Eq.symm hL3 | omega)
            subst e150
            refine z_iload_n (pc2 := 135) rfl rfl rfl ?_
            refine z_iast (pc2 := 136) rfl rfl t82 (by omega) (by omega) (by decide) (by omega) (by show zGd _; first | assumption | exact zGd_0 | (unfold zGd; refine ⟨⟨?_, ?_⟩, ⟨?_, ?_⟩, ?_⟩ <;> omega)) ?_
            refine z_aload_n (pc2 := 137) rfl rfl rfl ?_
            refine z_dup (pc2 := 138) rfl rfl rfl ?_
            refine z_getI (pc2 := 141) 0 rfl rfl rfl rfl rfl t56 ?_
            intro v151 e151 r151 k151
            replace k151 : (0 : Int) ≤ v151 ∧ v151 ≤ 42 := k151; clear r151
            replace e151 : L2 = v151 := by rw [e151]; first | exact hL3 | exact Eq.symm hL3 | (simp [zU]; first | done | exact hL3 | exact Eq.symm hL3 | omega)
            subst e151
            refine z_iconst (pc2 := 142) rfl rfl ?_
            refine z_iadd (pc2 := 143) rfl rfl ?_
            refine z_putI (pc2 := 146) rfl rfl rfl rfl rfl rfl t56 (by omega) (by show (0 : Int) ≤ _ ∧ _ ≤ 42; omega) ?_
            refine z_ret rfl rfl ?_
            exact hK _ _ _ _ (by repeat (first | exact zLf_rf _ | assumption | refine zLf_a ?_ (by decide) | refine zLf_f ?_ (by decide))) (by simp [zU]) (by simp [zU]; rfl) (by simp [zU]; rfl) (by omega) (by omega) (fun k h1 h2 h3 h4 => by simp [zU, h1, h2, h3, h4]) (fun k => by simp [zU])
