set_option maxHeartbeats 8000000 in
theorem z_law {L : Nat} {xs : Nat → Int32} {K : List zV → zH → Prop} (hL : L ≤ 3072) (hK : ∀ (n sl : Nat) (T : Nat → zT) (I : Nat → Nat → Int) (P : Nat → Nat → Option Nat) (G : Nat → Nat → Int), n ≤ 200000 → sl ≤ 4000000 → K [.inl 1] (n, sl, T, I, P, G)) (m : Nat) : ∀ (n sl : Nat) (T : Nat → zT) (I : Nat → Nat → Int) (P : Nat → Nat → Option Nat) (G : Nat → Nat → Int) (i : Int), 0 ≤ i → i ≤ L → zLw i n sl T I P → (L - i).toNat < m → zB zMd L xs 271 18 [(3, .inl i), (2, .inr (.inl (some 56))), (1, .inr (.inl (some 1))), (0, .inr (.inl (some 0)))] [] (n, sl, T, I, P, G) K := by
  induction m with
  | zero => intro n sl T I P G i h0 h1 h hm; omega
  | succ m ih =>
    intro n sl T I P G i h0 h1 h hm
    have hn8 := h.2.2.2.2.2.2.2.2.1
    have hn9 := h.2.2.2.2.2.2.2.2.2
    refine z_iload_n (pc2 := 19) rfl rfl rfl ?_
    refine z_aload_n (pc2 := 20) rfl rfl rfl ?_
    refine z_slen (pc2 := 21) rfl rfl ?_
    refine z_bipush (pc2 := 23) rfl rfl (by decide) ?_
    refine z_isub (pc2 := 24) rfl rfl ?_
    refine z_icmp_gt (t := 1426) (pc2 := 27) rfl rfl rfl (by omega) (by omega) (fun c => ?_) (fun c => ?_)
    ·
      refine z_iconst (pc2 := 1427) rfl rfl ?_
      refine z_zret rfl rfl (by omega) ?_
      exact hK _ _ _ _ _ _ (by omega) (by omega)
    ·
      have hB : ∀ (n2 sl2 : Nat) (T2 : Nat → zT) (I2 : Nat → Nat → Int) (P2 : Nat → Nat → Option Nat) (G2 : Nat → Nat → Int), zLw (i + 6) n2 sl2 T2 I2 P2 → zB zMd L xs 271 1420 [(3, .inl i), (2, .inr (.inl (some 56))), (1, .inr (.inl (some 1))), (0, .inr (.inl (some 0)))] [] (n2, sl2, T2, I2, P2, G2) K := by
        intro n2 sl2 T2 I2 P2 G2 h2
        refine z_iinc (lv2 := [(3, _), (2, _), (1, _), (0, _)]) (pc2 := 1423) rfl rfl rfl rfl rfl ?_
        refine z_goto (pc2 := 18) rfl rfl ?_
        exact ih _ _ _ _ _ _ _ (by omega) (by omega) h2 (by omega)
      refine z_aload_n (pc2 := 28) rfl rfl rfl ?_
      refine z_iload_n (pc2 := 29) rfl rfl rfl ?_
      refine z_sald (pc2 := 30) rfl rfl (by omega) (by omega) (by omega) (fun v ve vr => ?_)
      refine z_bipush (pc2 := 32) rfl rfl (by decide) ?_
      refine z_and_63 (pc2 := 33) rfl rfl ?_
      refine z_tsw (td := 1420) rfl rfl (by omega) (fun c => ?_) (fun j cj ch => ?_)
      ·
        exact hB _ _ _ _ _ _ (zLw_0 h)
      ·
        have ct : j = 0 ∨ j = 1 ∨ j = 2 ∨ j = 3 ∨ j = 4 ∨ j = 5 ∨ j = 6 ∨ j = 7 ∨ j = 8 ∨ j = 9 ∨ j = 10 ∨ j = 11 ∨ j = 12 ∨ j = 13 ∨ j = 14 ∨ j = 15 ∨ j = 16 ∨ j = 17 ∨ j = 18 ∨ j = 19 ∨ j = 20 ∨ j = 21 ∨ j = 22 ∨ j = 23 ∨ j = 24 ∨ j = 25 ∨ j = 26 ∨ j = 27 ∨ j = 28 ∨ j = 29 ∨ j = 30 ∨ j = 31 ∨ j = 32 ∨ j = 33 ∨ j = 34 ∨ j = 35 := by omega
        rcases ct with rfl | rfl | rfl | rfl | rfl | rfl | rfl | rfl | rfl | rfl | rfl | rfl | rfl | rfl | rfl | rfl | rfl | rfl | rfl | rfl | rfl | rfl | rfl | rfl | rfl | rfl | rfl | rfl | rfl | rfl | rfl | rfl | rfl | rfl | rfl | rfl
        · exact ⟨_, 192, rfl, rfl, lw_0 hL h0 (by omega) h hB⟩
        · exact ⟨_, 215, rfl, rfl, lw_1 hL h0 (by omega) h hB⟩
        · exact ⟨_, 248, rfl, rfl, lw_2 hL h0 (by omega) h hB⟩
        · exact ⟨_, 291, rfl, rfl, lw_3 hL h0 (by omega) h hB⟩
        · exact ⟨_, 334, rfl, rfl, lw_4 hL h0 (by omega) h hB⟩
        · exact ⟨_, 387, rfl, rfl, lw_5 hL h0 (by omega) h hB⟩
        · exact ⟨_, 450, rfl, rfl, lw_6 hL h0 (by omega) h hB⟩
        · exact ⟨_, 493, rfl, rfl, lw_7 hL h0 (by omega) h hB⟩
        · exact ⟨_, 556, rfl, rfl, lw_8 hL h0 (by omega) h hB⟩
        · exact ⟨_, 609, rfl, rfl, lw_9 hL h0 (by omega) h hB⟩
        · exact ⟨_, 642, rfl, rfl, lw_10 hL h0 (by omega) h hB⟩
        · exact ⟨_, 685, rfl, rfl, lw_11 hL h0 (by omega) h hB⟩
        · exact ⟨_, 718, rfl, rfl, lw_12 hL h0 (by omega) h hB⟩
        · exact ⟨_, 771, rfl, rfl, lw_13 hL h0 (by omega) h hB⟩
        · exact ⟨_, 794, rfl, rfl, lw_14 hL h0 (by omega) h hB⟩
        · exact ⟨_, 827, rfl, rfl, lw_15 hL h0 (by omega) h hB⟩
        · exact ⟨_, 860, rfl, rfl, lw_16 hL h0 (by omega) h hB⟩
        · exact ⟨_, 893, rfl, rfl, lw_17 hL h0 (by omega) h hB⟩
        · exact ⟨_, 926, rfl, rfl, lw_18 hL h0 (by omega) h hB⟩
        · exact ⟨_, 959, rfl, rfl, lw_19 hL h0 (by omega) h hB⟩
        · exact ⟨_, 992, rfl, rfl, lw_20 hL h0 (by omega) h hB⟩
        · exact ⟨_, 1035, rfl, rfl, lw_21 hL h0 (by omega) h hB⟩
        · exact ⟨_, 1058, rfl, rfl, lw_22 hL h0 (by omega) h hB⟩
        · exact ⟨_, 1091, rfl, rfl, lw_23 hL h0 (by omega) h hB⟩
        · exact ⟨_, 1134, rfl, rfl, lw_24 hL h0 (by omega) h hB⟩
        · exact ⟨_, 1157, rfl, rfl, lw_25 hL h0 (by omega) h hB⟩
        · exact ⟨_, 1190, rfl, rfl, lw_26 hL h0 (by omega) h hB⟩
        · exact ⟨_, 1223, rfl, rfl, lw_27 hL h0 (by omega) h hB⟩
        · exact ⟨_, 1236, rfl, rfl, lw_28 hL h0 (by omega) h hB⟩
        · exact ⟨_, 1259, rfl, rfl, lw_29 hL h0 (by omega) h hB⟩
        · exact ⟨_, 1282, rfl, rfl, lw_30 hL h0 (by omega) h hB⟩
        · exact ⟨_, 1305, rfl, rfl, lw_31 hL h0 (by omega) h hB⟩
        · exact ⟨_, 1318, rfl, rfl, lw_32 hL h0 (by omega) h hB⟩
        · exact ⟨_, 1331, rfl, rfl, lw_33 hL h0 (by omega) h hB⟩
        · exact ⟨_, 1374, rfl, rfl, lw_34 hL h0 (by omega) h hB⟩
        · exact ⟨_, 1397, rfl, rfl, lw_35 hL h0 (by omega) h hB⟩
