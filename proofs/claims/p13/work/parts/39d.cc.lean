/-! the class: room, note -/
set_option maxHeartbeats 8000000 in
theorem c_TypeRoom_room {L : Nat} {xs : Nat → Int32} {n sl : Nat} {T : Nat → zT} {I : Nat → Nat → Int} {P : Nat → Nat → Option Nat} {G : Nat → Nat → Int} {K : List zV → zH → Prop} {a : Int} (hn : 90 ≤ n) (hC : ∀ a, 1 ≤ a → a ≤ 55 → T a = zFixC a) (ha : zR a) (hK : ∀ e I2 P2, (0 ≤ a ∧ a ≤ 1 → e = I 1 6 ∧ I2 1 6 = a) → (¬ (0 ≤ a ∧ a ≤ 1) → e = -1 ∧ I2 1 6 = I 1 6) → (zCR T I P → zCR T I2 P2) → (∀ x k, x = 22 ∨ x = 41 ∨ (56 ≤ x ∧ x ≤ 90) → I2 x k = I x k) → K [.inl e] (n, sl, T, I2, P2, G)) : zX zMd L xs 106 [.inr (.inl (some 1)), .inl a] (n, sl, T, I, P, G) K := by
  have t1 : T 1 = (1, 11, [1]) := hC 1 (by decide) (by decide)
  have t2 : T 2 = (2, 8, [2, 3]) := hC 2 (by decide) (by decide)
  refine z_inl ?_
  refine z_lv (lv2 := [(0, _), (1, _)]) ⟨rfl, rfl, trivial⟩ ?_
  refine z_iload_n (pc2 := 1) rfl rfl rfl ?_
  refine z_iconst (pc2 := 2) rfl rfl ?_
  refine z_iconst (pc2 := 3) rfl rfl ?_
  refine z_callS (y2 := 155) (as := [_, _, _]) (rest := []) (pc2 := 6) rfl rfl rfl rfl ?_
  refine c_TypeRoom_isOutside (by omega) (by omega) (by omega) (fun e1 e1a e1b e1c => ?_)
  show zB _ _ _ _ _ _ [_] _ _
  refine z_if_eq (t := 15) (pc2 := 9) rfl rfl rfl (by omega) (fun c2 => ?_) (fun c2 => ?_)
  ·
    refine z_aload_n (pc2 := 16) rfl rfl rfl ?_
    refine z_getI (pc2 := 19) 0 rfl rfl rfl rfl rfl t1 ?_
    intro v3 e3 r3 k3
    replace k3 : (0 : Int) ≤ v3 ∧ v3 ≤ 1 := k3
    refine z_istore_n (lv2 := [(2, _), (0, _), (1, _)]) (pc2 := 20) rfl rfl rfl rfl ?_
    refine z_aload_n (pc2 := 21) rfl rfl rfl ?_
    refine z_iload_n (pc2 := 22) rfl rfl rfl ?_
    refine z_putI (pc2 := 25) rfl rfl rfl rfl rfl rfl t1 (by omega) (by show (0 : Int) ≤ _ ∧ _ ≤ 1; omega) ?_
    refine z_aload_n (pc2 := 26) rfl rfl rfl ?_
    refine z_aload_n (pc2 := 27) rfl rfl rfl ?_
    refine z_getP (pc2 := 30) rfl rfl rfl rfl t1 ?_
    intro p4 p4e p4k
    replace p4k : p4 = some 2 := p4k; clear p4e; subst p4k
    refine z_iload_n (pc2 := 31) rfl rfl rfl ?_
    refine z_aald (pc2 := 32) rfl rfl t2 rfl (by omega) (by omega) (by omega) ?_
    intro p5 p5e p5k
    obtain ⟨b6, rfl, b6v⟩ := zRoomAt p5k (by omega)
    have hb6 : b6 = 18 ∨ b6 = 37 := by omega
    have tb6 := zRm_t hC hb6
    refine z_putP (pc2 := 35) rfl rfl rfl rfl (by first | exact z_fitO _ _ | exact z_fitA _ _) rfl t1 (by have h9 := hb6; rcases h9 with h9 | h9; exact Or.inl (by rw [h9]); exact Or.inr (by rw [h9])) ?_
    refine z_aload_n (pc2 := 36) rfl rfl rfl ?_
    refine z_iload_n (pc2 := 37) rfl rfl rfl ?_
    refine z_callV (y2 := 144) (as := [_]) (rest := []) (pc2 := 40) rfl rfl rfl rfl t1 rfl ?_
    refine z_inl ?_
    refine z_lv (lv2 := [(0, _), (1, _)]) ⟨rfl, rfl, trivial⟩ ?_
    refine z_aload_n (pc2 := 1) rfl rfl rfl ?_
    refine z_iconst (pc2 := 2) rfl rfl ?_
    refine z_putI (pc2 := 5) rfl rfl rfl rfl rfl rfl t1 (by omega) True.intro ?_
    refine z_iload_n (pc2 := 6) rfl rfl rfl ?_
    refine z_iret rfl rfl ?_
    show zB _ _ _ _ _ _ [_] _ _
    refine z_iret rfl rfl ?_
    exact hK _ _ _ (fun h => by first | (exfalso; omega) | exact ⟨by assumption, by simp [zU]⟩) (fun h => by first | (exfalso; omega) | exact ⟨rfl, by simp [zU]⟩) (fun h => by first | exact zCR_room (by omega) (by assumption) h | exact zCR_st h) (fun x k hx => by repeat (rw [zU_row _ _ _ (by omega)]))
  ·
    refine z_aload_n (pc2 := 10) rfl rfl rfl ?_
    refine z_iconst (pc2 := 11) rfl rfl ?_
    refine z_callV (y2 := 142) (as := [_]) (rest := []) (pc2 := 14) rfl rfl rfl rfl t1 rfl ?_
    refine z_inl ?_
    refine z_lv (lv2 := [(0, _), (1, _)]) ⟨rfl, rfl, trivial⟩ ?_
    refine z_aload_n (pc2 := 1) rfl rfl rfl ?_
    refine z_iload_n (pc2 := 2) rfl rfl rfl ?_
    refine z_putI (pc2 := 5) rfl rfl rfl rfl rfl rfl t1 (by omega) True.intro ?_
    refine z_iload_n (pc2 := 6) rfl rfl rfl ?_
    refine z_iret rfl rfl ?_
    show zB _ _ _ _ _ _ [_] _ _
    refine z_iret rfl rfl ?_
    exact hK _ _ _ (fun h => by first | (exfalso; omega) | exact ⟨by assumption, by simp [zU]⟩) (fun h => by first | (exfalso; omega) | exact ⟨rfl, by simp [zU]⟩) (fun h => by first | exact zCR_room (by omega) (by assumption) h | exact zCR_st h) (fun x k hx => by repeat (rw [zU_row _ _ _ (by omega)]))
set_option maxHeartbeats 8000000 in
theorem c_TypeRoom_note {L : Nat} {xs : Nat → Int32} {n sl : Nat} {T : Nat → zT} {I : Nat → Nat → Int} {P : Nat → Nat → Option Nat} {G : Nat → Nat → Int} {K : List zV → zH → Prop} {a c : Int} (hn : 90 ≤ n) (hC : ∀ a, 1 ≤ a → a ≤ 55 → T a = zFixC a) (ha : zR a) (hc : zR c) (hcr : zCR T I P) (hK : ∀ e I2, ((0 ≤ a ∧ a ≤ 11 ∧ 0 ≤ c ∧ c ≤ 9) → e = I (22 + 19 * (I 1 6).toNat) a.toNat ∧ ∀ k, I2 (22 + 19 * (I 1 6).toNat) k = if k = a.toNat then c else I (22 + 19 * (I 1 6).toNat) k) → (¬ (0 ≤ a ∧ a ≤ 11 ∧ 0 ≤ c ∧ c ≤ 9) → e = -1 ∧ ∀ k, I2 22 k = I 22 k ∧ I2 41 k = I 41 k) → (∀ x k, x ≠ (22 + 19 * (I 1 6).toNat) → ¬ (x = 1 ∧ k = 9) → I2 x k = I x k) → K [.inl e] (n, sl, T, I2, P, G)) : zX zMd L xs 117 [.inr (.inl (some 1)), .inl a, .inl c] (n, sl, T, I, P, G) K := by
  have t1 : T 1 = (1, 11, [1]) := hC 1 (by decide) (by decide)
  refine z_inl ?_
  refine z_lv (lv2 := [(0, _), (1, _), (2, _)]) ⟨rfl, rfl, rfl, trivial⟩ ?_
  refine z_iload_n (pc2 := 1) rfl rfl rfl ?_
  refine z_callS (y2 := 152) (as := [_]) (rest := []) (pc2 := 4) rfl rfl rfl rfl ?_
  refine z_inl ?_
  refine z_lv (lv2 := [(0, _)]) ⟨rfl, trivial⟩ ?_
  refine z_iload_n (pc2 := 1) rfl rfl rfl ?_
  refine z_iconst (pc2 := 2) rfl rfl ?_
  refine z_bipush (pc2 := 4) rfl rfl (by decide) ?_
  refine z_callS (y2 := 155) (as := [_, _, _]) (rest := []) (pc2 := 7) rfl rfl rfl rfl ?_
  refine c_TypeRoom_isOutside (by omega) (by omega) (by omega) (fun e1 e1a e1b e1c => ?_)
  show zB _ _ _ _ _ _ [_] _ _
  refine z_zret rfl rfl (by omega) ?_
  show zB _ _ _ _ _ _ [_] _ _
  refine z_if_ne (t := 17) (pc2 := 7) rfl rfl rfl (by omega) (fun c2 => ?_) (fun c2 => ?_)
  ·
    refine z_aload_n (pc2 := 18) rfl rfl rfl ?_
    refine z_iconst (pc2 := 19) rfl rfl ?_
    refine z_callV (y2 := 142) (as := [_]) (rest := []) (pc2 := 22) rfl rfl rfl rfl t1 rfl ?_
    refine z_inl ?_
    refine z_lv (lv2 := [(0, _), (1, _)]) ⟨rfl, rfl, trivial⟩ ?_
    refine z_aload_n (pc2 := 1) rfl rfl rfl ?_
    refine z_iload_n (pc2 := 2) rfl rfl rfl ?_
    refine z_putI (pc2 := 5) rfl rfl rfl rfl rfl rfl t1 (by omega) True.intro ?_
    refine z_iload_n (pc2 := 6) rfl rfl rfl ?_
    refine z_iret rfl rfl ?_
    show zB _ _ _ _ _ _ [_] _ _
    refine z_iret rfl rfl ?_
    first | exact hK _ _ (fun h => by exfalso; omega) (fun h => ⟨rfl, fun k => ⟨zU_r1 (by omega), zU_r1 (by omega)⟩⟩) (fun x k h1 h2 => by simp [zU, h2]) | (have hbv := zNote_b hcr (by assumption); exact hK _ _ (fun h => zNote_1 hbv (by assumption)) (fun h => by exfalso; omega) (fun x k h1 h2 => zNote_2 hbv h1 h2))
  ·
    refine z_iload_n (pc2 := 8) rfl rfl rfl ?_
    refine z_iconst (pc2 := 9) rfl rfl ?_
    refine z_bipush (pc2 := 11) rfl rfl (by decide) ?_
    refine z_callS (y2 := 155) (as := [_, _, _]) (rest := []) (pc2 := 14) rfl rfl rfl rfl ?_
    refine c_TypeRoom_isOutside (by omega) (by omega) (by omega) (fun e3 e3a e3b e3c => ?_)
    show zB _ _ _ _ _ _ [_] _ _
    refine z_if_eq (t := 23) (pc2 := 17) rfl rfl rfl (by omega) (fun c4 => ?_) (fun c4 => ?_)
    ·
      refine z_aload_n (pc2 := 24) rfl rfl rfl ?_
      refine z_getP (pc2 := 27) rfl rfl rfl rfl t1 ?_
      intro p5 p5e p5k
      obtain ⟨b6, rfl, hb6⟩ := zHere p5k
      have tb6 := zRm_t hC hb6
      refine z_getP (pc2 := 30) rfl rfl rfl rfl tb6.1 ?_
      intro p7 p7e p7k
      replace p7k : p7 = some (b6 + 4) := p7k; clear p7e; subst p7k
      refine z_iload_n (pc2 := 31) rfl rfl rfl ?_
      refine z_iald (pc2 := 32) rfl rfl tb6.2.2.2.2 (by omega) (by omega) (by omega) ?_
      intro v8 e8 r8 k8
      replace k8 : (0 : Int) ≤ v8 ∧ v8 ≤ 9 := k8
      refine z_istore_n (lv2 := [(3, _), (0, _), (1, _), (2, _)]) (pc2 := 33) rfl rfl rfl rfl ?_
      refine z_aload_n (pc2 := 34) rfl rfl rfl ?_
      refine z_getP (pc2 := 37) rfl rfl rfl rfl t1 ?_
      intro p9 p9e p9k
      clear p9k; replace p9e : p9 = some b6 := by rw [p9e]; first | exact p5e | exact Eq.symm p5e | (simp [zU]; first | done | exact p5e | exact Eq.symm p5e | omega)
      subst p9e
      refine z_getP (pc2 := 40) rfl rfl rfl rfl tb6.1 ?_
      intro p10 p10e p10k
      replace p10k : p10 = some (b6 + 4) := p10k; clear p10e; subst p10k
      refine z_iload_n (pc2 := 41) rfl rfl rfl ?_
      refine z_iload_n (pc2 := 42) rfl rfl rfl ?_
      refine z_iast (pc2 := 43) rfl rfl tb6.2.2.2.2 (by omega) (by omega) (by omega) (by omega) (by show (0 : Int) ≤ _ ∧ _ ≤ 9; omega) ?_
      refine z_aload_n (pc2 := 44) rfl rfl rfl ?_
      refine z_iload_n (pc2 := 45) rfl rfl rfl ?_
      refine z_callV (y2 := 144) (as := [_]) (rest := []) (pc2 := 48) rfl rfl rfl rfl t1 rfl ?_
      refine z_inl ?_
      refine z_lv (lv2 := [(0, _), (1, _)]) ⟨rfl, rfl, trivial⟩ ?_
      refine z_aload_n (pc2 := 1) rfl rfl rfl ?_
      refine z_iconst (pc2 := 2) rfl rfl ?_
      refine z_putI (pc2 := 5) rfl rfl rfl rfl rfl rfl t1 (by omega) True.intro ?_
      refine z_iload_n (pc2 := 6) rfl rfl rfl ?_
      refine z_iret rfl rfl ?_
      show zB _ _ _ _ _ _ [_] _ _
      refine z_iret rfl rfl ?_
      first | exact hK _ _ (fun h => by exfalso; omega) (fun h => ⟨rfl, fun k => ⟨zU_r1 (by omega), zU_r1 (by omega)⟩⟩) (fun x k h1 h2 => by simp [zU, h2]) | (have hbv := zNote_b hcr (by assumption); exact hK _ _ (fun h => zNote_1 hbv (by assumption)) (fun h => by exfalso; omega) (fun x k h1 h2 => zNote_2 hbv h1 h2))
    ·
      refine z_aload_n (pc2 := 18) rfl rfl rfl ?_
      refine z_iconst (pc2 := 19) rfl rfl ?_
      refine z_callV (y2 := 142) (as := [_]) (rest := []) (pc2 := 22) rfl rfl rfl rfl t1 rfl ?_
      refine z_inl ?_
      refine z_lv (lv2 := [(0, _), (1, _)]) ⟨rfl, rfl, trivial⟩ ?_
      refine z_aload_n (pc2 := 1) rfl rfl rfl ?_
      refine z_iload_n (pc2 := 2) rfl rfl rfl ?_
      refine z_putI (pc2 := 5) rfl rfl rfl rfl rfl rfl t1 (by omega) True.intro ?_
      refine z_iload_n (pc2 := 6) rfl rfl rfl ?_
      refine z_iret rfl rfl ?_
      show zB _ _ _ _ _ _ [_] _ _
      refine z_iret rfl rfl ?_
      first | exact hK _ _ (fun h => by exfalso; omega) (fun h => ⟨rfl, fun k => ⟨zU_r1 (by omega), zU_r1 (by omega)⟩⟩) (fun x k h1 h2 => by simp [zU, h2]) | (have hbv := zNote_b hcr (by assumption); exact hK _ _ (fun h => zNote_1 hbv (by assumption)) (fun h => by exfalso; omega) (fun x k h1 h2 => zNote_2 hbv h1 h2))
