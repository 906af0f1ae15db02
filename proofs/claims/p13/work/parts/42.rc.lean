/-! the reference: keeping and undoing -/
set_option maxHeartbeats 8000000 in
theorem l_copy57c {L : Nat} {xs : Nat → Int32} {n sl : Nat} {T : Nat → zT} {I : Nat → Nat → Int} {P : Nat → Nat → Option Nat} {K : List zV → zH → Prop} {a u w : Int} (hT : ∀ a, 56 ≤ a → a ≤ 90 → T a = zFix a) (ha : 0 ≤ a ∧ a ≤ 56100) (hu : 0 ≤ u ∧ u ≤ 5874) (hw : 0 ≤ w ∧ w ≤ 47520) {r0 : Nat} (hr0 : r0 < 2) (ha2 : a = 56100 * (r0 : Int)) (hu2 : u = 66 * I 57 (a + 164).toNat) (ha3 : I 57 (56100 * r0 + 164) = I 57 (a + 164).toNat) (hK : ∀ I2 G2, zFr I I2 → (∀ c j, c ≠ 58 → I2 c j = I c j) → K [] (n, sl, T, I2, P, G2)) (m : Nat) : ∀ (I2 : Nat → Nat → Int) (G2 : Nat → Nat → Int), ∀ (k : Int), 8540 ≤ k ∧ k ≤ 112160 → zCp 57 58 (fun j => (a ≤ (j : Int) ∧ (j : Int) < a + 1940 + u) ∨ (a + 8540 ≤ (j : Int) ∧ (j : Int) < k)) I I2 → a + 8540 ≤ k ∧ k ≤ a + 8540 + w → (a + 8540 + w - k).toNat < m → zB zMd L xs 166 92 [(0, .inr (.inl (some 56))), (1, .inr (.inl (some 57))), (2, .inr (.inl (some 58))), (3, .inl a), (4, .inl w), (5, .inl k)] [] (n, sl, T, I2, P, G2) K := by
  have t57 : T 57 = (2, 0, [112200, 1]) := hT 57 (by decide) (by decide)
  have t58 : T 58 = (2, 0, [112200, 1]) := hT 58 (by decide) (by decide)
  induction m with
  | zero => intro I2 G2 k hk hI2 hk2 hm; omega
  | succ m ih =>
    intro I2 G2 k hk hI2 hk2 hm
    refine z_iload (pc2 := 94) rfl rfl rfl ?_
    refine z_iload_n (pc2 := 95) rfl rfl rfl ?_
    refine z_sipush (pc2 := 98) rfl rfl (by decide) ?_
    refine z_iadd (pc2 := 99) rfl rfl ?_
    refine z_iload (pc2 := 101) rfl rfl rfl ?_
    refine z_iadd (pc2 := 102) rfl rfl ?_
    refine z_icmp_ge (t := 119) (pc2 := 105) rfl rfl rfl (by omega) (by omega) (fun c1 => ?_) (fun c1 => ?_)
    ·
      refine z_ret rfl rfl ?_
      exact hK _ _ (zFr_cp (r0 := r0) (by omega) hr0 hI2 (fun j h1 h2 => by omega) (fun l h1 => by rw [ha3] at h1; omega) (fun j h1 => by omega)) (fun c j hc => (hI2 c j).2 (fun e => hc e.1))
    ·
      refine z_aload_n (pc2 := 106) rfl rfl rfl ?_
      refine z_iload (pc2 := 108) rfl rfl rfl ?_
      refine z_aload_n (pc2 := 109) rfl rfl rfl ?_
      refine z_iload (pc2 := 111) rfl rfl rfl ?_
      refine z_iald (pc2 := 112) rfl rfl t57 (by omega) (by omega) (by decide) ?_
      intro v2 e2 r2 k2
      refine z_iast (pc2 := 113) rfl rfl t58 (by omega) (by omega) (by decide) (by omega) k2 ?_
      refine z_iinc (lv2 := [(5, _), (0, _), (1, _), (2, _), (3, _), (4, _)]) (pc2 := 116) rfl rfl rfl rfl rfl ?_
      refine z_goto (pc2 := 92) rfl rfl ?_
      refine z_lv (lv2 := [(0, _), (1, _), (2, _), (3, _), (4, _), (5, _)]) ⟨rfl, rfl, rfl, rfl, rfl, rfl, trivial⟩ ?_
      exact ih _ _ _ (by omega) (zCp_u hI2 (by decide) (by assumption) (fun j => by omega)) (by omega) (by omega)
set_option maxHeartbeats 8000000 in
theorem l_copy57b {L : Nat} {xs : Nat → Int32} {n sl : Nat} {T : Nat → zT} {I : Nat → Nat → Int} {P : Nat → Nat → Option Nat} {K : List zV → zH → Prop} {a u : Int} (hT : ∀ a, 56 ≤ a → a ≤ 90 → T a = zFix a) (ha : 0 ≤ a ∧ a ≤ 56100) (hu : 0 ≤ u ∧ u ≤ 5874) {r0 : Nat} (hr0 : r0 < 2) (ha2 : a = 56100 * (r0 : Int)) (hu2 : u = 66 * I 57 (a + 164).toNat) (ha3 : I 57 (56100 * r0 + 164) = I 57 (a + 164).toNat) (hK : ∀ I2 G2, zFr I I2 → (∀ c j, c ≠ 58 → I2 c j = I c j) → K [] (n, sl, T, I2, P, G2)) (m : Nat) : ∀ (I2 : Nat → Nat → Int) (G2 : Nat → Nat → Int), ∀ (k : Int), 1940 ≤ k ∧ k ≤ 63914 → zCp 57 58 (fun j => a ≤ (j : Int) ∧ (j : Int) < k) I I2 → a + 1940 ≤ k ∧ k ≤ a + 1940 + u → (a + 1940 + u - k).toNat < m → zB zMd L xs 166 46 [(0, .inr (.inl (some 56))), (1, .inr (.inl (some 57))), (2, .inr (.inl (some 58))), (3, .inl a), (4, .inl u), (5, .inl k)] [] (n, sl, T, I2, P, G2) K := by
  have t57 : T 57 = (2, 0, [112200, 1]) := hT 57 (by decide) (by decide)
  have t58 : T 58 = (2, 0, [112200, 1]) := hT 58 (by decide) (by decide)
  induction m with
  | zero => intro I2 G2 k hk hI2 hk2 hm; omega
  | succ m ih =>
    intro I2 G2 k hk hI2 hk2 hm
    refine z_iload (pc2 := 48) rfl rfl rfl ?_
    refine z_iload_n (pc2 := 49) rfl rfl rfl ?_
    refine z_sipush (pc2 := 52) rfl rfl (by decide) ?_
    refine z_iadd (pc2 := 53) rfl rfl ?_
    refine z_iload (pc2 := 55) rfl rfl rfl ?_
    refine z_iadd (pc2 := 56) rfl rfl ?_
    refine z_icmp_ge (t := 73) (pc2 := 59) rfl rfl rfl (by omega) (by omega) (fun c1 => ?_) (fun c1 => ?_)
    ·
      refine z_bipush (pc2 := 75) rfl rfl (by decide) ?_
      refine z_aload_n (pc2 := 76) rfl rfl rfl ?_
      refine z_iload_n (pc2 := 77) rfl rfl rfl ?_
      refine z_sipush (pc2 := 80) rfl rfl (by decide) ?_
      refine z_iadd (pc2 := 81) rfl rfl ?_
      refine z_iald (pc2 := 82) rfl rfl t57 (by omega) (by omega) (by decide) ?_
      intro v2 e2 r2 k2
      replace k2 := ok_sets k2 (by omega); clear r2
      refine z_imul (pc2 := 83) rfl rfl ?_
      refine z_istore (lv2 := [(4, _), (0, _), (1, _), (2, _), (3, _), (5, _)]) (pc2 := 85) rfl rfl rfl rfl ?_
      refine z_iload_n (pc2 := 86) rfl rfl rfl ?_
      refine z_sipush (pc2 := 89) rfl rfl (by decide) ?_
      refine z_iadd (pc2 := 90) rfl rfl ?_
      refine z_istore (lv2 := [(5, _), (4, _), (0, _), (1, _), (2, _), (3, _)]) (pc2 := 92) rfl rfl rfl rfl ?_
      refine z_lv (lv2 := [(0, _), (1, _), (2, _), (3, _), (4, _), (5, _)]) ⟨rfl, rfl, rfl, rfl, rfl, rfl, trivial⟩ ?_
      exact l_copy57c hT (u := u) (by omega) (by omega) (by omega) hr0 ha2 hu2 ha3 hK _ _ _ _ (by omega) (zCp_mono hI2 (fun j => by omega)) (by omega) (Nat.lt_succ_self _)
    ·
      refine z_aload_n (pc2 := 60) rfl rfl rfl ?_
      refine z_iload (pc2 := 62) rfl rfl rfl ?_
      refine z_aload_n (pc2 := 63) rfl rfl rfl ?_
      refine z_iload (pc2 := 65) rfl rfl rfl ?_
      refine z_iald (pc2 := 66) rfl rfl t57 (by omega) (by omega) (by decide) ?_
      intro v3 e3 r3 k3
      refine z_iast (pc2 := 67) rfl rfl t58 (by omega) (by omega) (by decide) (by omega) k3 ?_
      refine z_iinc (lv2 := [(5, _), (0, _), (1, _), (2, _), (3, _), (4, _)]) (pc2 := 70) rfl rfl rfl rfl rfl ?_
      refine z_goto (pc2 := 46) rfl rfl ?_
      refine z_lv (lv2 := [(0, _), (1, _), (2, _), (3, _), (4, _), (5, _)]) ⟨rfl, rfl, rfl, rfl, rfl, rfl, trivial⟩ ?_
      exact ih _ _ _ (by omega) (zCp_u hI2 (by decide) (by assumption) (fun j => by omega)) (by omega) (by omega)
set_option maxHeartbeats 8000000 in
theorem l_copy57a {L : Nat} {xs : Nat → Int32} {n sl : Nat} {T : Nat → zT} {I : Nat → Nat → Int} {P : Nat → Nat → Option Nat} {K : List zV → zH → Prop} {a : Int} (hT : ∀ a, 56 ≤ a → a ≤ 90 → T a = zFix a) (ha : 0 ≤ a ∧ a ≤ 56100) {r0 : Nat} (hr0 : r0 < 2) (ha2 : a = 56100 * (r0 : Int)) (hK : ∀ I2 G2, zFr I I2 → (∀ c j, c ≠ 58 → I2 c j = I c j) → K [] (n, sl, T, I2, P, G2)) (m : Nat) : ∀ (I2 : Nat → Nat → Int) (G2 : Nat → Nat → Int), ∀ (k : Int), 0 ≤ k ∧ k ≤ 58040 → zCp 57 58 (fun j => a ≤ (j : Int) ∧ (j : Int) < k) I I2 → a ≤ k ∧ k ≤ a + 1940 → (a + 1940 - k).toNat < m → zB zMd L xs 166 3 [(0, .inr (.inl (some 56))), (1, .inr (.inl (some 57))), (2, .inr (.inl (some 58))), (3, .inl a), (4, .inl k)] [] (n, sl, T, I2, P, G2) K := by
  have t57 : T 57 = (2, 0, [112200, 1]) := hT 57 (by decide) (by decide)
  have t58 : T 58 = (2, 0, [112200, 1]) := hT 58 (by decide) (by decide)
  induction m with
  | zero => intro I2 G2 k hk hI2 hk2 hm; omega
  | succ m ih =>
    intro I2 G2 k hk hI2 hk2 hm
    refine z_iload (pc2 := 5) rfl rfl rfl ?_
    refine z_iload_n (pc2 := 6) rfl rfl rfl ?_
    refine z_sipush (pc2 := 9) rfl rfl (by decide) ?_
    refine z_iadd (pc2 := 10) rfl rfl ?_
    refine z_icmp_ge (t := 27) (pc2 := 13) rfl rfl rfl (by omega) (by omega) (fun c1 => ?_) (fun c1 => ?_)
    ·
      refine z_bipush (pc2 := 29) rfl rfl (by decide) ?_
      refine z_aload_n (pc2 := 30) rfl rfl rfl ?_
      refine z_iload_n (pc2 := 31) rfl rfl rfl ?_
      refine z_sipush (pc2 := 34) rfl rfl (by decide) ?_
      refine z_iadd (pc2 := 35) rfl rfl ?_
      refine z_iald (pc2 := 36) rfl rfl t57 (by omega) (by omega) (by decide) ?_
      intro v2 e2 r2 k2
      replace k2 := ok_lines k2 (by omega); clear r2
      refine z_imul (pc2 := 37) rfl rfl ?_
      refine z_istore (lv2 := [(4, _), (0, _), (1, _), (2, _), (3, _)]) (pc2 := 39) rfl rfl rfl rfl ?_
      refine z_iload_n (pc2 := 40) rfl rfl rfl ?_
      refine z_sipush (pc2 := 43) rfl rfl (by decide) ?_
      refine z_iadd (pc2 := 44) rfl rfl ?_
      refine z_istore (lv2 := [(5, _), (4, _), (0, _), (1, _), (2, _), (3, _)]) (pc2 := 46) rfl rfl rfl rfl ?_
      refine z_lv (lv2 := [(0, _), (1, _), (2, _), (3, _), (4, _), (5, _)]) ⟨rfl, rfl, rfl, rfl, rfl, rfl, trivial⟩ ?_
      exact l_copy57b hT (by omega) (by omega) hr0 ha2 (by have e := (hI2 57 (a + 164).toNat).2 (fun e => by omega); omega) (by rw [show 56100 * r0 + 164 = (a + 164).toNat by omega]) hK _ _ _ _ (by omega) (zCp_mono hI2 (fun j => by omega)) (by omega) (Nat.lt_succ_self _)
    ·
      refine z_aload_n (pc2 := 14) rfl rfl rfl ?_
      refine z_iload (pc2 := 16) rfl rfl rfl ?_
      refine z_aload_n (pc2 := 17) rfl rfl rfl ?_
      refine z_iload (pc2 := 19) rfl rfl rfl ?_
      refine z_iald (pc2 := 20) rfl rfl t57 (by omega) (by omega) (by decide) ?_
      intro v3 e3 r3 k3
      refine z_iast (pc2 := 21) rfl rfl t58 (by omega) (by omega) (by decide) (by omega) k3 ?_
      refine z_iinc (lv2 := [(4, _), (0, _), (1, _), (2, _), (3, _)]) (pc2 := 24) rfl rfl rfl rfl rfl ?_
      refine z_goto (pc2 := 3) rfl rfl ?_
      refine z_lv (lv2 := [(0, _), (1, _), (2, _), (3, _), (4, _)]) ⟨rfl, rfl, rfl, rfl, rfl, trivial⟩ ?_
      exact ih _ _ _ (by omega) (zCp_u hI2 (by decide) (by assumption) (fun j => by omega)) (by omega) (by omega)
set_option maxHeartbeats 8000000 in
theorem m_copy57 {L : Nat} {xs : Nat → Int32} {n sl : Nat} {T : Nat → zT} {I : Nat → Nat → Int} {P : Nat → Nat → Option Nat} {G : Nat → Nat → Int} {K : List zV → zH → Prop} {a : Int} (hT : ∀ a, 56 ≤ a → a ≤ 90 → T a = zFix a) (ha : 0 ≤ a ∧ a ≤ 56100) {r0 : Nat} (hr0 : r0 < 2) (ha2 : a = 56100 * (r0 : Int)) (hK : ∀ I2 G2, zFr I I2 → (∀ c j, c ≠ 58 → I2 c j = I c j) → K [] (n, sl, T, I2, P, G2)) : zX zMd L xs 166 [.inr (.inl (some 56)), .inr (.inl (some 57)), .inr (.inl (some 58)), .inl a] (n, sl, T, I, P, G) K := by
  refine z_inl ?_
  refine z_lv (lv2 := [(0, _), (1, _), (2, _), (3, _)]) ⟨rfl, rfl, rfl, rfl, trivial⟩ ?_
  refine z_iload_n (pc2 := 1) rfl rfl rfl ?_
  refine z_istore (lv2 := [(4, _), (0, _), (1, _), (2, _), (3, _)]) (pc2 := 3) rfl rfl rfl rfl ?_
  refine z_lv (lv2 := [(0, _), (1, _), (2, _), (3, _), (4, _)]) ⟨rfl, rfl, rfl, rfl, rfl, trivial⟩ ?_
  exact l_copy57a hT (by omega) hr0 ha2 hK _ _ _ _ (by omega) (zCp_rf (fun j => by omega)) (by omega) (Nat.lt_succ_self _)
set_option maxHeartbeats 8000000 in
theorem l_copy58c {L : Nat} {xs : Nat → Int32} {n sl : Nat} {T : Nat → zT} {I : Nat → Nat → Int} {P : Nat → Nat → Option Nat} {K : List zV → zH → Prop} {a u w : Int} (hT : ∀ a, 56 ≤ a → a ≤ 90 → T a = zFix a) (ha : 0 ≤ a ∧ a ≤ 56100) (hu : 0 ≤ u ∧ u ≤ 5874) (hw : 0 ≤ w ∧ w ≤ 47520) {r0 : Nat} (hr0 : r0 < 2) (ha2 : a = 56100 * (r0 : Int)) (hu2 : u = 66 * I 58 (a + 164).toNat) (ha3 : I 58 (56100 * r0 + 164) = I 58 (a + 164).toNat) (hK : ∀ I2 G2, zFr I I2 → (∀ c j, c ≠ 57 → I2 c j = I c j) → K [] (n, sl, T, I2, P, G2)) (m : Nat) : ∀ (I2 : Nat → Nat → Int) (G2 : Nat → Nat → Int), ∀ (k : Int), 8540 ≤ k ∧ k ≤ 112160 → zCp 58 57 (fun j => (a ≤ (j : Int) ∧ (j : Int) < a + 1940 + u) ∨ (a + 8540 ≤ (j : Int) ∧ (j : Int) < k)) I I2 → a + 8540 ≤ k ∧ k ≤ a + 8540 + w → (a + 8540 + w - k).toNat < m → zB zMd L xs 166 92 [(0, .inr (.inl (some 56))), (1, .inr (.inl (some 58))), (2, .inr (.inl (some 57))), (3, .inl a), (4, .inl w), (5, .inl k)] [] (n, sl, T, I2, P, G2) K := by
  have t57 : T 57 = (2, 0, [112200, 1]) := hT 57 (by decide) (by decide)
  have t58 : T 58 = (2, 0, [112200, 1]) := hT 58 (by decide) (by decide)
  induction m with
  | zero => intro I2 G2 k hk hI2 hk2 hm; omega
  | succ m ih =>
    intro I2 G2 k hk hI2 hk2 hm
    refine z_iload (pc2 := 94) rfl rfl rfl ?_
    refine z_iload_n (pc2 := 95) rfl rfl rfl ?_
    refine z_sipush (pc2 := 98) rfl rfl (by decide) ?_
    refine z_iadd (pc2 := 99) rfl rfl ?_
    refine z_iload (pc2 := 101) rfl rfl rfl ?_
    refine z_iadd (pc2 := 102) rfl rfl ?_
    refine z_icmp_ge (t := 119) (pc2 := 105) rfl rfl rfl (by omega) (by omega) (fun c1 => ?_) (fun c1 => ?_)
    ·
      refine z_ret rfl rfl ?_
      exact hK _ _ (zFr_cp (r0 := r0) (by omega) hr0 hI2 (fun j h1 h2 => by omega) (fun l h1 => by rw [ha3] at h1; omega) (fun j h1 => by omega)) (fun c j hc => (hI2 c j).2 (fun e => hc e.1))
    ·
      refine z_aload_n (pc2 := 106) rfl rfl rfl ?_
      refine z_iload (pc2 := 108) rfl rfl rfl ?_
      refine z_aload_n (pc2 := 109) rfl rfl rfl ?_
      refine z_iload (pc2 := 111) rfl rfl rfl ?_
      refine z_iald (pc2 := 112) rfl rfl t58 (by omega) (by omega) (by decide) ?_
      intro v2 e2 r2 k2
      refine z_iast (pc2 := 113) rfl rfl t57 (by omega) (by omega) (by decide) (by omega) k2 ?_
      refine z_iinc (lv2 := [(5, _), (0, _), (1, _), (2, _), (3, _), (4, _)]) (pc2 := 116) rfl rfl rfl rfl rfl ?_
      refine z_goto (pc2 := 92) rfl rfl ?_
      refine z_lv (lv2 := [(0, _), (1, _), (2, _), (3, _), (4, _), (5, _)]) ⟨rfl, rfl, rfl, rfl, rfl, rfl, trivial⟩ ?_
      exact ih _ _ _ (by omega) (zCp_u hI2 (by decide) (by assumption) (fun j => by omega)) (by omega) (by omega)
set_option maxHeartbeats 8000000 in
theorem l_copy58b {L : Nat} {xs : Nat → Int32} {n sl : Nat} {T : Nat → zT} {I : Nat → Nat → Int} {P : Nat → Nat → Option Nat} {K : List zV → zH → Prop} {a u : Int} (hT : ∀ a, 56 ≤ a → a ≤ 90 → T a = zFix a) (ha : 0 ≤ a ∧ a ≤ 56100) (hu : 0 ≤ u ∧ u ≤ 5874) {r0 : Nat} (hr0 : r0 < 2) (ha2 : a = 56100 * (r0 : Int)) (hu2 : u = 66 * I 58 (a + 164).toNat) (ha3 : I 58 (56100 * r0 + 164) = I 58 (a + 164).toNat) (hK : ∀ I2 G2, zFr I I2 → (∀ c j, c ≠ 57 → I2 c j = I c j) → K [] (n, sl, T, I2, P, G2)) (m : Nat) : ∀ (I2 : Nat → Nat → Int) (G2 : Nat → Nat → Int), ∀ (k : Int), 1940 ≤ k ∧ k ≤ 63914 → zCp 58 57 (fun j => a ≤ (j : Int) ∧ (j : Int) < k) I I2 → a + 1940 ≤ k ∧ k ≤ a + 1940 + u → (a + 1940 + u - k).toNat < m → zB zMd L xs 166 46 [(0, .inr (.inl (some 56))), (1, .inr (.inl (some 58))), (2, .inr (.inl (some 57))), (3, .inl a), (4, .inl u), (5, .inl k)] [] (n, sl, T, I2, P, G2) K := by
  have t57 : T 57 = (2, 0, [112200, 1]) := hT 57 (by decide) (by decide)
  have t58 : T 58 = (2, 0, [112200, 1]) := hT 58 (by decide) (by decide)
  induction m with
  | zero => intro I2 G2 k hk hI2 hk2 hm; omega
  | succ m ih =>
    intro I2 G2 k hk hI2 hk2 hm
    refine z_iload (pc2 := 48) rfl rfl rfl ?_
    refine z_iload_n (pc2 := 49) rfl rfl rfl ?_
    refine z_sipush (pc2 := 52) rfl rfl (by decide) ?_
    refine z_iadd (pc2 := 53) rfl rfl ?_
    refine z_iload (pc2 := 55) rfl rfl rfl ?_
    refine z_iadd (pc2 := 56) rfl rfl ?_
    refine z_icmp_ge (t := 73) (pc2 := 59) rfl rfl rfl (by omega) (by omega) (fun c1 => ?_) (fun c1 => ?_)
    ·
      refine z_bipush (pc2 := 75) rfl rfl (by decide) ?_
      refine z_aload_n (pc2 := 76) rfl rfl rfl ?_
      refine z_iload_n (pc2 := 77) rfl rfl rfl ?_
      refine z_sipush (pc2 := 80) rfl rfl (by decide) ?_
      refine z_iadd (pc2 := 81) rfl rfl ?_
      refine z_iald (pc2 := 82) rfl rfl t58 (by omega) (by omega) (by decide) ?_
      intro v2 e2 r2 k2
      replace k2 := ok_sets k2 (by omega); clear r2
      refine z_imul (pc2 := 83) rfl rfl ?_
      refine z_istore (lv2 := [(4, _), (0, _), (1, _), (2, _), (3, _), (5, _)]) (pc2 := 85) rfl rfl rfl rfl ?_
      refine z_iload_n (pc2 := 86) rfl rfl rfl ?_
      refine z_sipush (pc2 := 89) rfl rfl (by decide) ?_
      refine z_iadd (pc2 := 90) rfl rfl ?_
      refine z_istore (lv2 := [(5, _), (4, _), (0, _), (1, _), (2, _), (3, _)]) (pc2 := 92) rfl rfl rfl rfl ?_
      refine z_lv (lv2 := [(0, _), (1, _), (2, _), (3, _), (4, _), (5, _)]) ⟨rfl, rfl, rfl, rfl, rfl, rfl, trivial⟩ ?_
      exact l_copy58c hT (u := u) (by omega) (by omega) (by omega) hr0 ha2 hu2 ha3 hK _ _ _ _ (by omega) (zCp_mono hI2 (fun j => by omega)) (by omega) (Nat.lt_succ_self _)
    ·
      refine z_aload_n (pc2 := 60) rfl rfl rfl ?_
      refine z_iload (pc2 := 62) rfl rfl rfl ?_
      refine z_aload_n (pc2 := 63) rfl rfl rfl ?_
      refine z_iload (pc2 := 65) rfl rfl rfl ?_
      refine z_iald (pc2 := 66) rfl rfl t58 (by omega) (by omega) (by decide) ?_
      intro v3 e3 r3 k3
      refine z_iast (pc2 := 67) rfl rfl t57 (by omega) (by omega) (by decide) (by omega) k3 ?_
      refine z_iinc (lv2 := [(5, _), (0, _), (1, _), (2, _), (3, _), (4, _)]) (pc2 := 70) rfl rfl rfl rfl rfl ?_
      refine z_goto (pc2 := 46) rfl rfl ?_
      refine z_lv (lv2 := [(0, _), (1, _), (2, _), (3, _), (4, _), (5, _)]) ⟨rfl, rfl, rfl, rfl, rfl, rfl, trivial⟩ ?_
      exact ih _ _ _ (by omega) (zCp_u hI2 (by decide) (by assumption) (fun j => by omega)) (by omega) (by omega)
set_option maxHeartbeats 8000000 in
theorem l_copy58a {L : Nat} {xs : Nat → Int32} {n sl : Nat} {T : Nat → zT} {I : Nat → Nat → Int} {P : Nat → Nat → Option Nat} {K : List zV → zH → Prop} {a : Int} (hT : ∀ a, 56 ≤ a → a ≤ 90 → T a = zFix a) (ha : 0 ≤ a ∧ a ≤ 56100) {r0 : Nat} (hr0 : r0 < 2) (ha2 : a = 56100 * (r0 : Int)) (hK : ∀ I2 G2, zFr I I2 → (∀ c j, c ≠ 57 → I2 c j = I c j) → K [] (n, sl, T, I2, P, G2)) (m : Nat) : ∀ (I2 : Nat → Nat → Int) (G2 : Nat → Nat → Int), ∀ (k : Int), 0 ≤ k ∧ k ≤ 58040 → zCp 58 57 (fun j => a ≤ (j : Int) ∧ (j : Int) < k) I I2 → a ≤ k ∧ k ≤ a + 1940 → (a + 1940 - k).toNat < m → zB zMd L xs 166 3 [(0, .inr (.inl (some 56))), (1, .inr (.inl (some 58))), (2, .inr (.inl (some 57))), (3, .inl a), (4, .inl k)] [] (n, sl, T, I2, P, G2) K := by
  have t57 : T 57 = (2, 0, [112200, 1]) := hT 57 (by decide) (by decide)
  have t58 : T 58 = (2, 0, [112200, 1]) := hT 58 (by decide) (by decide)
  induction m with
  | zero => intro I2 G2 k hk hI2 hk2 hm; omega
  | succ m ih =>
    intro I2 G2 k hk hI2 hk2 hm
    refine z_iload (pc2 := 5) rfl rfl rfl ?_
    refine z_iload_n (pc2 := 6) rfl rfl rfl ?_
    refine z_sipush (pc2 := 9) rfl rfl (by decide) ?_
    refine z_iadd (pc2 := 10) rfl rfl ?_
    refine z_icmp_ge (t := 27) (pc2 := 13) rfl rfl rfl (by omega) (by omega) (fun c1 => ?_) (fun c1 => ?_)
    ·
      refine z_bipush (pc2 := 29) rfl rfl (by decide) ?_
      refine z_aload_n (pc2 := 30) rfl rfl rfl ?_
      refine z_iload_n (pc2 := 31) rfl rfl rfl ?_
      refine z_sipush (pc2 := 34) rfl rfl (by decide) ?_
      refine z_iadd (pc2 := 35) rfl rfl ?_
      refine z_iald (pc2 := 36) rfl rfl t58 (by omega) (by omega) (by decide) ?_
      intro v2 e2 r2 k2
      replace k2 := ok_lines k2 (by omega); clear r2
      refine z_imul (pc2 := 37) rfl rfl ?_
      refine z_istore (lv2 := [(4, _), (0, _), (1, _), (2, _), (3, _)]) (pc2 := 39) rfl rfl rfl rfl ?_
      refine z_iload_n (pc2 := 40) rfl rfl rfl ?_
      refine z_sipush (pc2 := 43) rfl rfl (by decide) ?_
      refine z_iadd (pc2 := 44) rfl rfl ?_
      refine z_istore (lv2 := [(5, _), (4, _), (0, _), (1, _), (2, _), (3, _)]) (pc2 := 46) rfl rfl rfl rfl ?_
      refine z_lv (lv2 := [(0, _), (1, _), (2, _), (3, _), (4, _), (5, _)]) ⟨rfl, rfl, rfl, rfl, rfl, rfl, trivial⟩ ?_
      exact l_copy58b hT (by omega) (by omega) hr0 ha2 (by have e := (hI2 58 (a + 164).toNat).2 (fun e => by omega); omega) (by rw [show 56100 * r0 + 164 = (a + 164).toNat by omega]) hK _ _ _ _ (by omega) (zCp_mono hI2 (fun j => by omega)) (by omega) (Nat.lt_succ_self _)
    ·
      refine z_aload_n (pc2 := 14) rfl rfl rfl ?_
      refine z_iload (pc2 := 16) rfl rfl rfl ?_
      refine z_aload_n (pc2 := 17) rfl rfl rfl ?_
      refine z_iload (pc2 := 19) rfl rfl rfl ?_
      refine z_iald (pc2 := 20) rfl rfl t58 (by omega) (by omega) (by decide) ?_
      intro v3 e3 r3 k3
      refine z_iast (pc2 := 21) rfl rfl t57 (by omega) (by omega) (by decide) (by omega) k3 ?_
      refine z_iinc (lv2 := [(4, _), (0, _), (1, _), (2, _), (3, _)]) (pc2 := 24) rfl rfl rfl rfl rfl ?_
      refine z_goto (pc2 := 3) rfl rfl ?_
      refine z_lv (lv2 := [(0, _), (1, _), (2, _), (3, _), (4, _)]) ⟨rfl, rfl, rfl, rfl, rfl, trivial⟩ ?_
      exact ih _ _ _ (by omega) (zCp_u hI2 (by decide) (by assumption) (fun j => by omega)) (by omega) (by omega)
set_option maxHeartbeats 8000000 in
theorem m_copy58 {L : Nat} {xs : Nat → Int32} {n sl : Nat} {T : Nat → zT} {I : Nat → Nat → Int} {P : Nat → Nat → Option Nat} {G : Nat → Nat → Int} {K : List zV → zH → Prop} {a : Int} (hT : ∀ a, 56 ≤ a → a ≤ 90 → T a = zFix a) (ha : 0 ≤ a ∧ a ≤ 56100) {r0 : Nat} (hr0 : r0 < 2) (ha2 : a = 56100 * (r0 : Int)) (hK : ∀ I2 G2, zFr I I2 → (∀ c j, c ≠ 57 → I2 c j = I c j) → K [] (n, sl, T, I2, P, G2)) : zX zMd L xs 166 [.inr (.inl (some 56)), .inr (.inl (some 58)), .inr (.inl (some 57)), .inl a] (n, sl, T, I, P, G) K := by
  refine z_inl ?_
  refine z_lv (lv2 := [(0, _), (1, _), (2, _), (3, _)]) ⟨rfl, rfl, rfl, rfl, trivial⟩ ?_
  refine z_iload_n (pc2 := 1) rfl rfl rfl ?_
  refine z_istore (lv2 := [(4, _), (0, _), (1, _), (2, _), (3, _)]) (pc2 := 3) rfl rfl rfl rfl ?_
  refine z_lv (lv2 := [(0, _), (1, _), (2, _), (3, _), (4, _)]) ⟨rfl, rfl, rfl, rfl, rfl, trivial⟩ ?_
  exact l_copy58a hT (by omega) hr0 ha2 hK _ _ _ _ (by omega) (zCp_rf (fun j => by omega)) (by omega) (Nat.lt_succ_self _)
set_option maxHeartbeats 8000000 in
theorem m_keep {L : Nat} {xs : Nat → Int32} {n sl : Nat} {T : Nat → zT} {I : Nat → Nat → Int} {P : Nat → Nat → Option Nat} {G : Nat → Nat → Int} {K : List zV → zH → Prop} (hT : ∀ a, 56 ≤ a → a ≤ 90 → T a = zFix a) (hK : ∀ I2 G2, zFr I I2 → (∀ c j, c ≠ 58 → c ≠ 59 → I2 c j = I c j) → K [] (n, sl, T, I2, P, G2)) : zX zMd L xs 167 [.inr (.inl (some 56))] (n, sl, T, I, P, G) K := by
  have t56 : T 56 = (1, 12, [1]) := hT 56 (by decide) (by decide)
  have t59 : T 59 = (2, 2, [2, 0]) := hT 59 (by decide) (by decide)
  refine z_inl ?_
  refine z_lv (lv2 := [(0, _)]) ⟨rfl, trivial⟩ ?_
  refine z_aload_n (pc2 := 1) rfl rfl rfl ?_
  refine z_aload_n (pc2 := 2) rfl rfl rfl ?_
  refine z_getP (pc2 := 5) rfl rfl rfl rfl t56 ?_
  intro p1 p1e p1k; replace p1k : p1 = some 57 := p1k; clear p1e; subst p1k
  refine z_aload_n (pc2 := 6) rfl rfl rfl ?_
  refine z_getP (pc2 := 9) rfl rfl rfl rfl t56 ?_
  intro p2 p2e p2k; replace p2k : p2 = some 58 := p2k; clear p2e; subst p2k
  refine z_aload_n (pc2 := 10) rfl rfl rfl ?_
  refine z_callV (y2 := 162) (as := []) (rest := [_, _, _]) (pc2 := 13) rfl rfl rfl rfl t56 rfl ?_
  refine z_inl ?_
  refine z_lv (lv2 := [(0, _)]) ⟨rfl, trivial⟩ ?_
  refine z_ldc (56100) (pc2 := 2) rfl rfl rfl ?_
  refine z_aload_n (pc2 := 3) rfl rfl rfl ?_
  refine z_getI (pc2 := 6) 0 rfl rfl rfl rfl rfl t56 ?_
  intro v3 e3 r3 k3
  clear e3
  replace k3 : (0 : Int) ≤ v3 ∧ v3 ≤ 1 := k3; clear r3
  refine z_imul (pc2 := 7) rfl rfl ?_
  refine z_iret rfl rfl ?_
  show zB _ _ _ _ _ _ [_, _, _, _] _ _
  refine z_callV (y2 := 166) (as := [_, _, _]) (rest := []) (pc2 := 16) rfl rfl rfl rfl t56 rfl ?_
  refine m_copy57 (r0 := v3.toNat) hT (by omega) (by omega) (by omega) (fun Iw4 Gw4 fw4 ow4 => ?_)
  replace fw4 := zFr_tr (I := I) (by repeat (first | exact zFr_rf _ | assumption | refine zFr_a ?_ (by decide) | refine zFr_f ?_ (by decide) | refine zFr_n ?_ (by omega) | refine zFr_h ?_ (by omega) | refine zFr_tok ?_ (by omega))) fw4
  show zB _ _ _ _ _ _ [] _ _
  refine z_aload_n (pc2 := 17) rfl rfl rfl ?_
  refine z_getP (pc2 := 20) rfl rfl rfl rfl t56 ?_
  intro p5 p5e p5k; replace p5k : p5 = some 59 := p5k; clear p5e; subst p5k
  refine z_aload_n (pc2 := 21) rfl rfl rfl ?_
  refine z_getI (pc2 := 24) 0 rfl rfl rfl rfl rfl t56 ?_
  intro v6 e6 r6 k6
  clear e6
  replace k6 : (0 : Int) ≤ v6 ∧ v6 ≤ 1 := k6; clear r6
  refine z_iconst (pc2 := 25) rfl rfl ?_
  refine z_bast (pc2 := 26) rfl rfl t59 (by omega) (by omega) (by decide) (by omega) True.intro ?_
  refine z_ret rfl rfl ?_
  exact hK _ _ (by repeat (first | exact zFr_rf _ | assumption | refine zFr_a ?_ (by decide) | refine zFr_f ?_ (by decide) | refine zFr_n ?_ (by omega) | refine zFr_h ?_ (by omega) | refine zFr_tok ?_ (by omega))) (fun c j h1 h2 => by rw [zU_row _ _ _ h2]; exact ow4 c j h1)
set_option maxHeartbeats 8000000 in
theorem m_undo {L : Nat} {xs : Nat → Int32} {n sl : Nat} {T : Nat → zT} {I : Nat → Nat → Int} {P : Nat → Nat → Option Nat} {G : Nat → Nat → Int} {K : List zV → zH → Prop} (hT : ∀ a, 56 ≤ a → a ≤ 90 → T a = zFix a) (hK : ∀ e I2 G2, zFr I I2 → K [.inl e] (n, sl, T, I2, P, G2)) : zX zMd L xs 263 [.inr (.inl (some 56))] (n, sl, T, I, P, G) K := by
  have t56 : T 56 = (1, 12, [1]) := hT 56 (by decide) (by decide)
  have t59 : T 59 = (2, 2, [2, 0]) := hT 59 (by decide) (by decide)
  refine z_inl ?_
  refine z_lv (lv2 := [(0, _)]) ⟨rfl, trivial⟩ ?_
  refine z_aload_n (pc2 := 1) rfl rfl rfl ?_
  refine z_getP (pc2 := 4) rfl rfl rfl rfl t56 ?_
  intro p1 p1e p1k; replace p1k : p1 = some 59 := p1k; clear p1e; subst p1k
  refine z_aload_n (pc2 := 5) rfl rfl rfl ?_
  refine z_getI (pc2 := 8) 0 rfl rfl rfl rfl rfl t56 ?_
  intro v2 e2 r2 k2
  clear e2
  replace k2 : (0 : Int) ≤ v2 ∧ v2 ≤ 1 := k2; clear r2
  refine z_bald (pc2 := 9) rfl rfl t59 (by omega) (by omega) (by decide) ?_
  intro v3 e3 r3 k3
  clear e3
  clear k3
  refine z_if_ne (t := 19) (pc2 := 12) rfl rfl rfl (by omega) (fun c4 => ?_) (fun c4 => ?_)
  ·
    refine z_aload_n (pc2 := 20) rfl rfl rfl ?_
    refine z_aload_n (pc2 := 21) rfl rfl rfl ?_
    refine z_getP (pc2 := 24) rfl rfl rfl rfl t56 ?_
    intro p5 p5e p5k; replace p5k : p5 = some 58 := p5k; clear p5e; subst p5k
    refine z_aload_n (pc2 := 25) rfl rfl rfl ?_
    refine z_getP (pc2 := 28) rfl rfl rfl rfl t56 ?_
    intro p6 p6e p6k; replace p6k : p6 = some 57 := p6k; clear p6e; subst p6k
    refine z_aload_n (pc2 := 29) rfl rfl rfl ?_
    refine z_callV (y2 := 162) (as := []) (rest := [_, _, _]) (pc2 := 32) rfl rfl rfl rfl t56 rfl ?_
    refine z_inl ?_
    refine z_lv (lv2 := [(0, _)]) ⟨rfl, trivial⟩ ?_
    refine z_ldc (56100) (pc2 := 2) rfl rfl rfl ?_
    refine z_aload_n (pc2 := 3) rfl rfl rfl ?_
    refine z_getI (pc2 := 6) 0 rfl rfl rfl rfl rfl t56 ?_
    intro v7 e7 r7 k7
    clear e7
    replace k7 : (0 : Int) ≤ v7 ∧ v7 ≤ 1 := k7; clear r7
    refine z_imul (pc2 := 7) rfl rfl ?_
    refine z_iret rfl rfl ?_
    show zB _ _ _ _ _ _ [_, _, _, _] _ _
    refine z_callV (y2 := 166) (as := [_, _, _]) (rest := []) (pc2 := 35) rfl rfl rfl rfl t56 rfl ?_
    refine m_copy58 (r0 := v7.toNat) hT (by omega) (by omega) (by omega) (fun Iw8 Gw8 fw8 ow8 => ?_)
    replace fw8 := zFr_tr (I := I) (by repeat (first | exact zFr_rf _ | assumption | refine zFr_a ?_ (by decide) | refine zFr_f ?_ (by decide) | refine zFr_n ?_ (by omega) | refine zFr_h ?_ (by omega) | refine zFr_tok ?_ (by omega))) fw8
    show zB _ _ _ _ _ _ [] _ _
    refine z_aload_n (pc2 := 36) rfl rfl rfl ?_
    refine z_callV (y2 := 168) (as := []) (rest := []) (pc2 := 39) rfl rfl rfl rfl t56 rfl ?_
    refine z_inl ?_
    refine z_lv (lv2 := [(0, _)]) ⟨rfl, trivial⟩ ?_
    refine z_aload_n (pc2 := 1) rfl rfl rfl ?_
    refine z_getP (pc2 := 4) rfl rfl rfl rfl t56 ?_
    intro p9 p9e p9k; replace p9k : p9 = some 59 := p9k; clear p9e; subst p9k
    refine z_aload_n (pc2 := 5) rfl rfl rfl ?_
    refine z_getI (pc2 := 8) 0 rfl rfl rfl rfl rfl t56 ?_
    intro v10 e10 r10 k10
    clear e10
    replace k10 : (0 : Int) ≤ v10 ∧ v10 ≤ 1 := k10; clear r10
    refine z_iconst (pc2 := 9) rfl rfl ?_
    refine z_bast (pc2 := 10) rfl rfl t59 (by omega) (by omega) (by decide) (by omega) True.intro ?_
    refine z_ret rfl rfl ?_
    show zB _ _ _ _ _ _ [] _ _
    refine z_aload_n (pc2 := 40) rfl rfl rfl ?_
    refine z_iconst (pc2 := 41) rfl rfl ?_
    refine z_callV (y2 := 158) (as := [_]) (rest := []) (pc2 := 44) rfl rfl rfl rfl t56 rfl ?_
    refine z_inl ?_
    refine z_lv (lv2 := [(0, _), (1, _)]) ⟨rfl, rfl, trivial⟩ ?_
    refine z_aload_n (pc2 := 1) rfl rfl rfl ?_
    refine z_iconst (pc2 := 2) rfl rfl ?_
    refine z_putI (pc2 := 5) rfl rfl rfl rfl rfl rfl t56 (by omega) True.intro ?_
    refine z_iload_n (pc2 := 6) rfl rfl rfl ?_
    refine z_iret rfl rfl ?_
    show zB _ _ _ _ _ _ [_] _ _
    refine z_iret rfl rfl ?_
    exact hK _ _ _ (by repeat (first | exact zFr_rf _ | assumption | refine zFr_a ?_ (by decide) | refine zFr_f ?_ (by decide) | refine zFr_n ?_ (by omega) | refine zFr_h ?_ (by omega) | refine zFr_tok ?_ (by omega)))
  ·
    refine z_aload_n (pc2 := 13) rfl rfl rfl ?_
    refine z_bipush (pc2 := 15) rfl rfl (by decide) ?_
    refine z_callV (y2 := 159) (as := [_]) (rest := []) (pc2 := 18) rfl rfl rfl rfl t56 rfl ?_
    refine z_inl ?_
    refine z_lv (lv2 := [(0, _), (1, _)]) ⟨rfl, rfl, trivial⟩ ?_
    refine z_aload_n (pc2 := 1) rfl rfl rfl ?_
    refine z_iload_n (pc2 := 2) rfl rfl rfl ?_
    refine z_putI (pc2 := 5) rfl rfl rfl rfl rfl rfl t56 (by omega) True.intro ?_
    refine z_iload_n (pc2 := 6) rfl rfl rfl ?_
    refine z_iret rfl rfl ?_
    show zB _ _ _ _ _ _ [_] _ _
    refine z_iret rfl rfl ?_
    exact hK _ _ _ (by repeat (first | exact zFr_rf _ | assumption | refine zFr_a ?_ (by decide) | refine zFr_f ?_ (by decide) | refine zFr_n ?_ (by omega) | refine zFr_h ?_ (by omega) | refine zFr_tok ?_ (by omega)))
