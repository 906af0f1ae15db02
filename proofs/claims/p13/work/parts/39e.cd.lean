/-! the class: keeping -/
set_option maxHeartbeats 8000000 in
theorem cl_Floor_copyGalley2 {L : Nat} {xs : Nat → Int32} {n sl : Nat} {T : Nat → zT} {I : Nat → Nat → Int} {P : Nat → Nat → Option Nat} {K : List zV → zH → Prop} {u w : Int} {x z : Nat} (hn : 90 ≤ n) (hC : ∀ a, 1 ≤ a → a ≤ 55 → T a = zFixC a) (hu : 0 ≤ u ∧ u ≤ 89) (hw : 0 ≤ w ∧ w ≤ 89) (ix : x = 23 ∨ x = 30 ∨ x = 42 ∨ x = 49) (iz : z = 23 ∨ z = 30 ∨ z = 42 ∨ z = 49) (hne : x ≠ z) {I0 : Nat → Nat → Int} {P0 : Nat → Nat → Option Nat} (hI0 : I = zU I0 z 6 u) (hu0 : I0 x 6 = u) (hw0 : I0 x 8 = w) (hc1 : zCpP (x + 4) (z + 4) u P0 P) (hw2 : I x 8 = w) (hK : ∀ I2 P2 G2, zGal x z I0 I2 P0 P2 → K [] (n, sl, T, I2, P2, G2)) (m : Nat) : ∀ (P2 : Nat → Nat → Option Nat) (G2 : Nat → Nat → Int), ∀ (k : Int), 0 ≤ k ∧ k ≤ 89 → zCpP (x + 5) (z + 5) k P P2 → k ≤ w → (89 - k).toNat < m → zB zMd L xs 23 38 [(0, .inr (.inl (some z))), (1, .inr (.inl (some x))), (2, .inl k)] [] (n, sl, T, I, P2, G2) K := by
  have tx := zFl_t hC ix
  have tz := zFl_t hC iz
  induction m with
  | zero => intro P2 G2 k hk hI2 hb3 hm; omega
  | succ m ih =>
    intro P2 G2 k hk hI2 hb3 hm
    refine z_iload_n (pc2 := 39) rfl rfl rfl ?_
    refine z_aload_n (pc2 := 40) rfl rfl rfl ?_
    refine z_getI (pc2 := 43) 0 rfl rfl rfl rfl rfl tx.1 ?_
    intro v1 e1 r1 k1
    replace k1 : (0 : Int) ≤ v1 ∧ v1 ≤ 89 := k1
    replace e1 : w = v1 := by rw [e1]; first | exact hw2 | exact Eq.symm hw2 | (simp [zU]; first | done | exact hw2 | exact Eq.symm hw2 | omega)
    subst e1
    refine z_icmp_ge (t := 64) (pc2 := 46) rfl rfl rfl (by omega) (by omega) (fun c2 => ?_) (fun c2 => ?_)
    ·
      refine z_aload_n (pc2 := 65) rfl rfl rfl ?_
      refine z_aload_n (pc2 := 66) rfl rfl rfl ?_
      refine z_getI (pc2 := 69) 0 rfl rfl rfl rfl rfl tx.1 ?_
      intro v3 e3 r3 k3
      replace k3 : (0 : Int) ≤ v3 ∧ v3 ≤ 89 := k3
      replace e3 : w = v3 := by rw [e3]; first | exact hw2 | exact Eq.symm hw2 | (simp [zU]; first | done | exact hw2 | exact Eq.symm hw2 | omega)
      subst e3
      refine z_putI (pc2 := 72) rfl rfl rfl rfl rfl rfl tz.1 (by omega) (by show (0 : Int) ≤ _ ∧ _ ≤ 89; omega) ?_
      refine z_ret rfl rfl ?_
      exact hK _ _ _ (by rw [hI0]; exact zGal_in hu0 hw0 hne ix iz hc1 (by rw [show w = k by omega]; exact hI2))
    ·
      refine z_aload_n (pc2 := 47) rfl rfl rfl ?_
      refine z_getP (pc2 := 50) rfl rfl rfl rfl tz.1 ?_
      intro p4 p4e p4k
      replace p4k : p4 = some (z + 5) := p4k; clear p4e; subst p4k
      refine z_iload_n (pc2 := 51) rfl rfl rfl ?_
      refine z_aload_n (pc2 := 52) rfl rfl rfl ?_
      refine z_getP (pc2 := 55) rfl rfl rfl rfl tx.1 ?_
      intro p5 p5e p5k
      replace p5k : p5 = some (x + 5) := p5k; clear p5e; subst p5k
      refine z_iload_n (pc2 := 56) rfl rfl rfl ?_
      refine z_aald (pc2 := 57) rfl rfl tx.2.2.2.2.2.1 rfl (by omega) (by omega) (by omega) ?_
      intro p6 p6e p6k
      rcases p6k with rfl | ⟨q7, rfl, q79, f8, l9, tq7⟩
      ·
        refine z_aast (pc2 := 58) rfl rfl tz.2.2.2.2.2.1 rfl (by omega) (by omega) (by omega) (fun b hb => by cases hb) (Or.inl rfl) ?_
        refine z_iinc (lv2 := [(2, _), (0, _), (1, _)]) (pc2 := 61) rfl rfl rfl rfl rfl ?_
        refine z_goto (pc2 := 38) rfl rfl ?_
        refine z_lv (lv2 := [(0, _), (1, _), (2, _)]) ⟨rfl, rfl, rfl, trivial⟩ ?_
        exact ih _ _ _ (by omega) (zCpP_s hI2 (by omega) (by omega) (by assumption)) (by omega) (by omega)
      ·
        replace tq7 : _ = ((1, 5, [f8, l9]) : zT) := tq7
        refine zB_le tq7 trivial (fun q7l => ?_)
        refine z_aast (pc2 := 58) rfl rfl tz.2.2.2.2.2.1 rfl (by omega) (by omega) (by omega) (fun b hb => by cases hb; rw [tq7]; exact ⟨_, rfl, rfl⟩) (Or.inr ⟨_, rfl, by omega, _, _, tq7⟩) ?_
        refine z_iinc (lv2 := [(2, _), (0, _), (1, _)]) (pc2 := 61) rfl rfl rfl rfl rfl ?_
        refine z_goto (pc2 := 38) rfl rfl ?_
        refine z_lv (lv2 := [(0, _), (1, _), (2, _)]) ⟨rfl, rfl, rfl, trivial⟩ ?_
        exact ih _ _ _ (by omega) (zCpP_s hI2 (by omega) (by omega) (by assumption)) (by omega) (by omega)
set_option maxHeartbeats 8000000 in
theorem cl_Floor_copyGalley1 {L : Nat} {xs : Nat → Int32} {n sl : Nat} {T : Nat → zT} {I : Nat → Nat → Int} {P : Nat → Nat → Option Nat} {K : List zV → zH → Prop} {u w : Int} {x z : Nat} (hn : 90 ≤ n) (hC : ∀ a, 1 ≤ a → a ≤ 55 → T a = zFixC a) (hu : 0 ≤ u ∧ u ≤ 89) (hw : 0 ≤ w ∧ w ≤ 89) (ix : x = 23 ∨ x = 30 ∨ x = 42 ∨ x = 49) (iz : z = 23 ∨ z = 30 ∨ z = 42 ∨ z = 49) (hne : x ≠ z) (hu : I x 6 = u) (hw : I x 8 = w) (hK : ∀ I2 P2 G2, zGal x z I I2 P P2 → K [] (n, sl, T, I2, P2, G2)) (m : Nat) : ∀ (P2 : Nat → Nat → Option Nat) (G2 : Nat → Nat → Int), ∀ (k : Int), 0 ≤ k ∧ k ≤ 89 → zCpP (x + 4) (z + 4) k P P2 → k ≤ u → (89 - k).toNat < m → zB zMd L xs 23 2 [(0, .inr (.inl (some z))), (1, .inr (.inl (some x))), (2, .inl k)] [] (n, sl, T, I, P2, G2) K := by
  have tx := zFl_t hC ix
  have tz := zFl_t hC iz
  induction m with
  | zero => intro P2 G2 k hk hI2 hb3 hm; omega
  | succ m ih =>
    intro P2 G2 k hk hI2 hb3 hm
    refine z_iload_n (pc2 := 3) rfl rfl rfl ?_
    refine z_aload_n (pc2 := 4) rfl rfl rfl ?_
    refine z_getI (pc2 := 7) 0 rfl rfl rfl rfl rfl tx.1 ?_
    intro v1 e1 r1 k1
    replace k1 : (0 : Int) ≤ v1 ∧ v1 ≤ 89 := k1
    replace e1 : u = v1 := by rw [e1]; first | exact hu | exact Eq.symm hu | (simp [zU]; first | done | exact hu | exact Eq.symm hu | omega)
    subst e1
    refine z_icmp_ge (t := 28) (pc2 := 10) rfl rfl rfl (by omega) (by omega) (fun c2 => ?_) (fun c2 => ?_)
    ·
      refine z_aload_n (pc2 := 29) rfl rfl rfl ?_
      refine z_aload_n (pc2 := 30) rfl rfl rfl ?_
      refine z_getI (pc2 := 33) 0 rfl rfl rfl rfl rfl tx.1 ?_
      intro v3 e3 r3 k3
      replace k3 : (0 : Int) ≤ v3 ∧ v3 ≤ 89 := k3
      replace e3 : u = v3 := by rw [e3]; first | exact hu | exact Eq.symm hu | (simp [zU]; first | done | exact hu | exact Eq.symm hu | omega)
      subst e3
      refine z_putI (pc2 := 36) rfl rfl rfl rfl rfl rfl tz.1 (by omega) (by show (0 : Int) ≤ _ ∧ _ ≤ 89; omega) ?_
      refine z_iconst (pc2 := 37) rfl rfl ?_
      refine z_istore_n (lv2 := [(2, _), (0, _), (1, _)]) (pc2 := 38) rfl rfl rfl rfl ?_
      refine z_lv (lv2 := [(0, _), (1, _), (2, _)]) ⟨rfl, rfl, rfl, trivial⟩ ?_
      exact cl_Floor_copyGalley2 hn hC (u := u) (w := w) (by omega) (by omega) ix iz hne rfl hu hw (by rw [show u = k by omega]; exact hI2) (by rw [zU_row _ _ _ hne]; exact hw) hK _ _ _ _ (by omega)  zCpP_0 (by omega) (Nat.lt_succ_self _)
    ·
      refine z_aload_n (pc2 := 11) rfl rfl rfl ?_
      refine z_getP (pc2 := 14) rfl rfl rfl rfl tz.1 ?_
      intro p4 p4e p4k
      replace p4k : p4 = some (z + 4) := p4k; clear p4e; subst p4k
      refine z_iload_n (pc2 := 15) rfl rfl rfl ?_
      refine z_aload_n (pc2 := 16) rfl rfl rfl ?_
      refine z_getP (pc2 := 19) rfl rfl rfl rfl tx.1 ?_
      intro p5 p5e p5k
      replace p5k : p5 = some (x + 4) := p5k; clear p5e; subst p5k
      refine z_iload_n (pc2 := 20) rfl rfl rfl ?_
      refine z_aald (pc2 := 21) rfl rfl tx.2.2.2.2.1 rfl (by omega) (by omega) (by omega) ?_
      intro p6 p6e p6k
      rcases p6k with rfl | ⟨q7, rfl, q79, tq7⟩
      ·
        refine z_aast (pc2 := 22) rfl rfl tz.2.2.2.2.1 rfl (by omega) (by omega) (by omega) (fun b hb => by cases hb) (Or.inl rfl) ?_
        refine z_iinc (lv2 := [(2, _), (0, _), (1, _)]) (pc2 := 25) rfl rfl rfl rfl rfl ?_
        refine z_goto (pc2 := 2) rfl rfl ?_
        refine z_lv (lv2 := [(0, _), (1, _), (2, _)]) ⟨rfl, rfl, rfl, trivial⟩ ?_
        exact ih _ _ _ (by omega) (zCpP_s hI2 (by omega) (by omega) (by assumption)) (by omega) (by omega)
      ·
        replace tq7 : _ = ((1, 4, [1]) : zT) := tq7
        refine zB_le tq7 trivial (fun q7l => ?_)
        refine z_aast (pc2 := 22) rfl rfl tz.2.2.2.2.1 rfl (by omega) (by omega) (by omega) (fun b hb => by cases hb; rw [tq7]; exact ⟨_, rfl, rfl⟩) (Or.inr ⟨_, rfl, by omega, tq7⟩) ?_
        refine z_iinc (lv2 := [(2, _), (0, _), (1, _)]) (pc2 := 25) rfl rfl rfl rfl rfl ?_
        refine z_goto (pc2 := 2) rfl rfl ?_
        refine z_lv (lv2 := [(0, _), (1, _), (2, _)]) ⟨rfl, rfl, rfl, trivial⟩ ?_
        exact ih _ _ _ (by omega) (zCpP_s hI2 (by omega) (by omega) (by assumption)) (by omega) (by omega)
set_option maxHeartbeats 8000000 in
theorem c_Floor_copyGalley {L : Nat} {xs : Nat → Int32} {n sl : Nat} {T : Nat → zT} {I : Nat → Nat → Int} {P : Nat → Nat → Option Nat} {G : Nat → Nat → Int} {K : List zV → zH → Prop} {x z : Nat} (hn : 90 ≤ n) (hC : ∀ a, 1 ≤ a → a ≤ 55 → T a = zFixC a) (ix : x = 23 ∨ x = 30 ∨ x = 42 ∨ x = 49) (iz : z = 23 ∨ z = 30 ∨ z = 42 ∨ z = 49) (hne : x ≠ z) (hK : ∀ I2 P2 G2, zGal x z I I2 P P2 → K [] (n, sl, T, I2, P2, G2)) : zX zMd L xs 23 [.inr (.inl (some z)), .inr (.inl (some x))] (n, sl, T, I, P, G) K := by
  have tx := zFl_t hC ix
  refine zX_wf2 (fun hw => ?_)
  have b6 : 0 ≤ I x 6 ∧ I x 6 ≤ 89 := by have h1 := hw.2.1 x 6; rw [show (n, sl, T, I, P, G).2.2.1 x = T x from rfl, tx.1] at h1; exact h1
  have b8 : 0 ≤ I x 8 ∧ I x 8 ≤ 89 := by have h1 := hw.2.1 x 8; rw [show (n, sl, T, I, P, G).2.2.1 x = T x from rfl, tx.1] at h1; exact h1
  have tx := zFl_t hC ix
  have tz := zFl_t hC iz
  refine z_inl ?_
  refine z_lv (lv2 := [(0, _), (1, _)]) ⟨rfl, rfl, trivial⟩ ?_
  refine z_iconst (pc2 := 1) rfl rfl ?_
  refine z_istore_n (lv2 := [(2, _), (0, _), (1, _)]) (pc2 := 2) rfl rfl rfl rfl ?_
  refine z_lv (lv2 := [(0, _), (1, _), (2, _)]) ⟨rfl, rfl, rfl, trivial⟩ ?_
  exact cl_Floor_copyGalley1 hn hC (u := I x 6) (w := I x 8) b6 b8 ix iz hne rfl rfl hK _ _ _ _ (by omega)  zCpP_0 (by omega) (Nat.lt_succ_self _)
set_option maxHeartbeats 8000000 in
theorem cl_Floor_copyFrom3 {L : Nat} {xs : Nat → Int32} {n sl : Nat} {T : Nat → zT} {I : Nat → Nat → Int} {P : Nat → Nat → Option Nat} {K : List zV → zH → Prop} {w : Int} {x z : Nat} (hn : 90 ≤ n) (hC : ∀ a, 1 ≤ a → a ≤ 55 → T a = zFixC a) (hw : 0 ≤ w ∧ w ≤ 12) (ix : x = 23 ∨ x = 30 ∨ x = 42 ∨ x = 49) (iz : z = 23 ∨ z = 30 ∨ z = 42 ∨ z = 49) (hne : x ≠ z) {I0 : Nat → Nat → Int} {P0 : Nat → Nat → Option Nat} (hfl : zFlr T I0 P0 x) (hgg : zGal x z I0 I P0 P) (hg0 : zKq z 0 I0 I P0 P) (hw2 : I x 10 = w) (hK : ∀ I2 P2 G2, zKq z 0 I0 I2 P0 P2 → zFlr T I2 P2 z → K [] (n, sl, T, I2, P2, G2)) (m : Nat) : ∀ (P2 : Nat → Nat → Option Nat) (G2 : Nat → Nat → Int), ∀ (k : Int), 0 ≤ k ∧ k ≤ 12 → zCpP (x + 6) (z + 6) k P P2 → k ≤ w → (12 - k).toNat < m → zB zMd L xs 22 93 [(0, .inr (.inl (some z))), (1, .inr (.inl (some x))), (2, .inl k)] [] (n, sl, T, I, P2, G2) K := by
  have tx := zFl_t hC ix
  have tz := zFl_t hC iz
  induction m with
  | zero => intro P2 G2 k hk hI2 hb3 hm; omega
  | succ m ih =>
    intro P2 G2 k hk hI2 hb3 hm
    refine z_iload_n (pc2 := 94) rfl rfl rfl ?_
    refine z_aload_n (pc2 := 95) rfl rfl rfl ?_
    refine z_getI (pc2 := 98) 0 rfl rfl rfl rfl rfl tx.1 ?_
    intro v1 e1 r1 k1
    replace k1 : (0 : Int) ≤ v1 ∧ v1 ≤ 12 := k1
    replace e1 : w = v1 := by rw [e1]; first | exact hw2 | exact Eq.symm hw2 | (simp [zU]; first | done | exact hw2 | exact Eq.symm hw2 | omega)
    subst e1
    refine z_icmp_ge (t := 119) (pc2 := 101) rfl rfl rfl (by omega) (by omega) (fun c2 => ?_) (fun c2 => ?_)
    ·
      refine z_aload_n (pc2 := 120) rfl rfl rfl ?_
      refine z_aload_n (pc2 := 121) rfl rfl rfl ?_
      refine z_getI (pc2 := 124) 0 rfl rfl rfl rfl rfl tx.1 ?_
      intro v3 e3 r3 k3
      replace k3 : (0 : Int) ≤ v3 ∧ v3 ≤ 12 := k3
      replace e3 : w = v3 := by rw [e3]; first | exact hw2 | exact Eq.symm hw2 | (simp [zU]; first | done | exact hw2 | exact Eq.symm hw2 | omega)
      subst e3
      refine z_putI (pc2 := 127) rfl rfl rfl rfl rfl rfl tz.1 (by omega) (by show (0 : Int) ≤ _ ∧ _ ≤ 12; omega) ?_
      refine z_ret rfl rfl ?_
      exact hK _ _ _ (zKq_I (zKq_tr hg0 (zKq_c hI2 (by omega)))) (zFlr_new hfl ix iz hne hgg hw2 (by rw [show w = k by omega]; exact hI2))
    ·
      refine z_aload_n (pc2 := 102) rfl rfl rfl ?_
      refine z_getP (pc2 := 105) rfl rfl rfl rfl tz.1 ?_
      intro p4 p4e p4k
      replace p4k : p4 = some (z + 6) := p4k; clear p4e; subst p4k
      refine z_iload_n (pc2 := 106) rfl rfl rfl ?_
      refine z_aload_n (pc2 := 107) rfl rfl rfl ?_
      refine z_getP (pc2 := 110) rfl rfl rfl rfl tx.1 ?_
      intro p5 p5e p5k
      replace p5k : p5 = some (x + 6) := p5k; clear p5e; subst p5k
      refine z_iload_n (pc2 := 111) rfl rfl rfl ?_
      refine z_aald (pc2 := 112) rfl rfl tx.2.2.2.2.2.2 rfl (by omega) (by omega) (by omega) ?_
      intro p6 p6e p6k
      rcases p6k with rfl | ⟨q7, rfl, q79, tq7⟩
      ·
        refine z_aast (pc2 := 113) rfl rfl tz.2.2.2.2.2.2 rfl (by omega) (by omega) (by omega) (fun b hb => by cases hb) (Or.inl rfl) ?_
        refine z_iinc (lv2 := [(2, _), (0, _), (1, _)]) (pc2 := 116) rfl rfl rfl rfl rfl ?_
        refine z_goto (pc2 := 93) rfl rfl ?_
        refine z_lv (lv2 := [(0, _), (1, _), (2, _)]) ⟨rfl, rfl, rfl, trivial⟩ ?_
        exact ih _ _ _ (by omega) (zCpP_s hI2 (by omega) (by omega) (by assumption)) (by omega) (by omega)
      ·
        replace tq7 : _ = ((1, 2, [1]) : zT) := tq7
        refine zB_le tq7 trivial (fun q7l => ?_)
        refine z_aast (pc2 := 113) rfl rfl tz.2.2.2.2.2.2 rfl (by omega) (by omega) (by omega) (fun b hb => by cases hb; rw [tq7]; exact ⟨_, rfl, rfl⟩) (Or.inr ⟨_, rfl, by omega, tq7⟩) ?_
        refine z_iinc (lv2 := [(2, _), (0, _), (1, _)]) (pc2 := 116) rfl rfl rfl rfl rfl ?_
        refine z_goto (pc2 := 93) rfl rfl ?_
        refine z_lv (lv2 := [(0, _), (1, _), (2, _)]) ⟨rfl, rfl, rfl, trivial⟩ ?_
        exact ih _ _ _ (by omega) (zCpP_s hI2 (by omega) (by omega) (by assumption)) (by omega) (by omega)
set_option maxHeartbeats 8000000 in
theorem cl_Floor_copyFrom2 {L : Nat} {xs : Nat → Int32} {n sl : Nat} {T : Nat → zT} {I : Nat → Nat → Int} {P : Nat → Nat → Option Nat} {K : List zV → zH → Prop} {x z : Nat} (hn : 90 ≤ n) (hC : ∀ a, 1 ≤ a → a ≤ 55 → T a = zFixC a) (ix : x = 23 ∨ x = 30 ∨ x = 42 ∨ x = 49) (iz : z = 23 ∨ z = 30 ∨ z = 42 ∨ z = 49) (hne : x ≠ z) (hfl : zFlr T I P x) (hK : ∀ I2 P2 G2, zKq z 0 I I2 P P2 → zFlr T I2 P2 z → K [] (n, sl, T, I2, P2, G2)) (m : Nat) : ∀ (P2 : Nat → Nat → Option Nat) (G2 : Nat → Nat → Int), ∀ (k : Int), 0 ≤ k ∧ k ≤ 8 → zKq z 0 I I P P2 → (8 - k).toNat < m → zB zMd L xs 22 46 [(0, .inr (.inl (some z))), (1, .inr (.inl (some x))), (2, .inl k)] [] (n, sl, T, I, P2, G2) K := by
  have tx := zFl_t hC ix
  have tz := zFl_t hC iz
  induction m with
  | zero => intro P2 G2 k hk hI2 hm; omega
  | succ m ih =>
    intro P2 G2 k hk hI2 hm
    refine z_iload_n (pc2 := 47) rfl rfl rfl ?_
    refine z_bipush (pc2 := 49) rfl rfl (by decide) ?_
    refine z_icmp_ge (t := 70) (pc2 := 52) rfl rfl rfl (by omega) (by omega) (fun c1 => ?_) (fun c1 => ?_)
    ·
      refine z_aload_n (pc2 := 71) rfl rfl rfl ?_
      refine z_aload_n (pc2 := 72) rfl rfl rfl ?_
      refine z_getI (pc2 := 75) 0 rfl rfl rfl rfl rfl tx.1 ?_
      intro v2 e2 r2 k2
      clear k2
      clear e2
      refine z_putI (pc2 := 78) rfl rfl rfl rfl rfl rfl tz.1 (by omega) True.intro ?_
      refine z_aload_n (pc2 := 79) rfl rfl rfl ?_
      refine z_aload_n (pc2 := 80) rfl rfl rfl ?_
      refine z_getI (pc2 := 83) 0 rfl rfl rfl rfl rfl tx.1 ?_
      intro v3 e3 r3 k3
      replace k3 : (-1 : Int) ≤ v3 ∧ v3 ≤ 8 := k3
      clear e3
      refine z_putI (pc2 := 86) rfl rfl rfl rfl rfl rfl tz.1 (by omega) (by show (-1 : Int) ≤ _ ∧ _ ≤ 8; omega) ?_
      refine z_aload_n (pc2 := 87) rfl rfl rfl ?_
      refine z_aload_n (pc2 := 88) rfl rfl rfl ?_
      refine z_callV (y2 := 23) (as := [_]) (rest := []) (pc2 := 91) rfl rfl rfl rfl tz.1 rfl ?_
      refine c_Floor_copyGalley hn hC ix iz hne (fun I4 P4 G4 g4 => ?_)
      show zB _ _ _ _ _ _ [] _ _
      refine z_iconst (pc2 := 92) rfl rfl ?_
      refine z_istore_n (lv2 := [(2, _), (0, _), (1, _)]) (pc2 := 93) rfl rfl rfl rfl ?_
      refine zB_wf (fun hw => ?_)
      have b10 : 0 ≤ I4 x 10 ∧ I4 x 10 ≤ 12 := by have h1 := hw.2.1 x 10; rw [show (n, sl, T, I4, P4, G4).2.2.1 x = T x from rfl, tx.1] at h1; exact h1
      refine z_lv (lv2 := [(0, _), (1, _), (2, _)]) ⟨rfl, rfl, rfl, trivial⟩ ?_
      exact cl_Floor_copyFrom3 (w := I4 x 10) hn hC b10 ix iz hne (zFlr_k hfl ix iz (Or.inl rfl) hne (zKq_I (zKq_I hI2))) g4 (zKq_g g4) rfl (fun I9 P9 G9 h9 h8 => hK I9 P9 G9 (zKq_tr (zKq_I (zKq_I hI2)) h9) h8) _ _ _ _ (by omega) zCpP_0 (by omega) (Nat.lt_succ_self _)
    ·
      refine z_aload_n (pc2 := 53) rfl rfl rfl ?_
      refine z_getP (pc2 := 56) rfl rfl rfl rfl tz.1 ?_
      intro p5 p5e p5k
      replace p5k : p5 = some (z + 3) := p5k; clear p5e; subst p5k
      refine z_iload_n (pc2 := 57) rfl rfl rfl ?_
      refine z_aload_n (pc2 := 58) rfl rfl rfl ?_
      refine z_getP (pc2 := 61) rfl rfl rfl rfl tx.1 ?_
      intro p6 p6e p6k
      replace p6k : p6 = some (x + 3) := p6k; clear p6e; subst p6k
      refine z_iload_n (pc2 := 62) rfl rfl rfl ?_
      refine z_aald (pc2 := 63) rfl rfl tx.2.2.2.1 rfl (by omega) (by omega) (by omega) ?_
      intro p7 p7e p7k
      rcases p7k with rfl | ⟨q8, rfl, q89, d9, n10, tq8, q8c, q8b⟩
      ·
        refine z_aast (pc2 := 64) rfl rfl tz.2.2.2.1 rfl (by omega) (by omega) (by omega) (fun b hb => by cases hb) (Or.inl rfl) ?_
        refine z_iinc (lv2 := [(2, _), (0, _), (1, _)]) (pc2 := 67) rfl rfl rfl rfl rfl ?_
        refine z_goto (pc2 := 46) rfl rfl ?_
        refine z_lv (lv2 := [(0, _), (1, _), (2, _)]) ⟨rfl, rfl, rfl, trivial⟩ ?_
        exact ih _ _ _ (by omega) (zKq_P hI2 (by omega)) (by omega)
      ·
        replace tq8 : _ = ((1, 9, [1, d9, n10]) : zT) := tq8
        refine zB_le tq8 trivial (fun q8l => ?_)
        refine z_aast (pc2 := 64) rfl rfl tz.2.2.2.1 rfl (by omega) (by omega) (by omega) (fun b hb => by cases hb; rw [tq8]; exact ⟨_, rfl, rfl⟩) (Or.inr ⟨_, rfl, by omega, _, _, tq8, by omega, by omega⟩) ?_
        refine z_iinc (lv2 := [(2, _), (0, _), (1, _)]) (pc2 := 67) rfl rfl rfl rfl rfl ?_
        refine z_goto (pc2 := 46) rfl rfl ?_
        refine z_lv (lv2 := [(0, _), (1, _), (2, _)]) ⟨rfl, rfl, rfl, trivial⟩ ?_
        exact ih _ _ _ (by omega) (zKq_P hI2 (by omega)) (by omega)
set_option maxHeartbeats 8000000 in
theorem cl_Floor_copyFrom1 {L : Nat} {xs : Nat → Int32} {n sl : Nat} {T : Nat → zT} {I : Nat → Nat → Int} {P : Nat → Nat → Option Nat} {K : List zV → zH → Prop} {x z : Nat} (hn : 90 ≤ n) (hC : ∀ a, 1 ≤ a → a ≤ 55 → T a = zFixC a) (ix : x = 23 ∨ x = 30 ∨ x = 42 ∨ x = 49) (iz : z = 23 ∨ z = 30 ∨ z = 42 ∨ z = 49) (hne : x ≠ z) (hfl : zFlr T I P x) (hK : ∀ I2 P2 G2, zKq z 0 I I2 P P2 → zFlr T I2 P2 z → K [] (n, sl, T, I2, P2, G2)) (m : Nat) : ∀ (P2 : Nat → Nat → Option Nat) (G2 : Nat → Nat → Int), ∀ (k : Int), 0 ≤ k ∧ k ≤ 10 → zKq z 0 I I P P2 → (10 - k).toNat < m → zB zMd L xs 22 20 [(0, .inr (.inl (some z))), (1, .inr (.inl (some x))), (2, .inl k)] [] (n, sl, T, I, P2, G2) K := by
  have tx := zFl_t hC ix
  have tz := zFl_t hC iz
  induction m with
  | zero => intro P2 G2 k hk hI2 hm; omega
  | succ m ih =>
    intro P2 G2 k hk hI2 hm
    refine z_iload_n (pc2 := 21) rfl rfl rfl ?_
    refine z_bipush (pc2 := 23) rfl rfl (by decide) ?_
    refine z_icmp_ge (t := 44) (pc2 := 26) rfl rfl rfl (by omega) (by omega) (fun c1 => ?_) (fun c1 => ?_)
    ·
      refine z_iconst (pc2 := 45) rfl rfl ?_
      refine z_istore_n (lv2 := [(2, _), (0, _), (1, _)]) (pc2 := 46) rfl rfl rfl rfl ?_
      refine z_lv (lv2 := [(0, _), (1, _), (2, _)]) ⟨rfl, rfl, rfl, trivial⟩ ?_
      exact cl_Floor_copyFrom2 hn hC ix iz hne (zFlr_k hfl ix iz (Or.inl rfl) hne hI2) (fun I9 P9 G9 h9 h8 => hK I9 P9 G9 (zKq_tr hI2 h9) h8) _ _ _ _ (by omega)  zKq_rf  (Nat.lt_succ_self _)
    ·
      refine z_aload_n (pc2 := 27) rfl rfl rfl ?_
      refine z_getP (pc2 := 30) rfl rfl rfl rfl tz.1 ?_
      intro p2 p2e p2k
      replace p2k : p2 = some (z + 2) := p2k; clear p2e; subst p2k
      refine z_iload_n (pc2 := 31) rfl rfl rfl ?_
      refine z_aload_n (pc2 := 32) rfl rfl rfl ?_
      refine z_getP (pc2 := 35) rfl rfl rfl rfl tx.1 ?_
      intro p3 p3e p3k
      replace p3k : p3 = some (x + 2) := p3k; clear p3e; subst p3k
      refine z_iload_n (pc2 := 36) rfl rfl rfl ?_
      refine z_aald (pc2 := 37) rfl rfl tx.2.2.1 rfl (by omega) (by omega) (by omega) ?_
      intro p4 p4e p4k
      rcases p4k with rfl | ⟨q5, rfl, q59, d6, n7, tq5, q5c, q5b⟩
      ·
        refine z_aast (pc2 := 38) rfl rfl tz.2.2.1 rfl (by omega) (by omega) (by omega) (fun b hb => by cases hb) (Or.inl rfl) ?_
        refine z_iinc (lv2 := [(2, _), (0, _), (1, _)]) (pc2 := 41) rfl rfl rfl rfl rfl ?_
        refine z_goto (pc2 := 20) rfl rfl ?_
        refine z_lv (lv2 := [(0, _), (1, _), (2, _)]) ⟨rfl, rfl, rfl, trivial⟩ ?_
        exact ih _ _ _ (by omega) (zKq_P hI2 (by omega)) (by omega)
      ·
        replace tq5 : _ = ((1, 9, [1, d6, n7]) : zT) := tq5
        refine zB_le tq5 trivial (fun q5l => ?_)
        refine z_aast (pc2 := 38) rfl rfl tz.2.2.1 rfl (by omega) (by omega) (by omega) (fun b hb => by cases hb; rw [tq5]; exact ⟨_, rfl, rfl⟩) (Or.inr ⟨_, rfl, by omega, _, _, tq5, by omega, by omega⟩) ?_
        refine z_iinc (lv2 := [(2, _), (0, _), (1, _)]) (pc2 := 41) rfl rfl rfl rfl rfl ?_
        refine z_goto (pc2 := 20) rfl rfl ?_
        refine z_lv (lv2 := [(0, _), (1, _), (2, _)]) ⟨rfl, rfl, rfl, trivial⟩ ?_
        exact ih _ _ _ (by omega) (zKq_P hI2 (by omega)) (by omega)
set_option maxHeartbeats 8000000 in
theorem c_Floor_copyFrom {L : Nat} {xs : Nat → Int32} {n sl : Nat} {T : Nat → zT} {I : Nat → Nat → Int} {P : Nat → Nat → Option Nat} {G : Nat → Nat → Int} {K : List zV → zH → Prop} {x z : Nat} (hn : 90 ≤ n) (hC : ∀ a, 1 ≤ a → a ≤ 55 → T a = zFixC a) (ix : x = 23 ∨ x = 30 ∨ x = 42 ∨ x = 49) (iz : z = 23 ∨ z = 30 ∨ z = 42 ∨ z = 49) (hne : x ≠ z) (hfl : zFlr T I P x) (hK : ∀ I2 P2 G2, zKq z 0 I I2 P P2 → zFlr T I2 P2 z → K [] (n, sl, T, I2, P2, G2)) : zX zMd L xs 22 [.inr (.inl (some z)), .inr (.inl (some x))] (n, sl, T, I, P, G) K := by
  have tx := zFl_t hC ix
  have tz := zFl_t hC iz
  refine z_inl ?_
  refine z_lv (lv2 := [(0, _), (1, _)]) ⟨rfl, rfl, trivial⟩ ?_
  refine z_aload_n (pc2 := 1) rfl rfl rfl ?_
  refine z_getP (pc2 := 4) rfl rfl rfl rfl tx.1 ?_
  intro p1 p1e p1k
  replace p1k : p1 = some (x + 1) := p1k; clear p1e; subst p1k
  refine z_iconst (pc2 := 5) rfl rfl ?_
  refine z_aload_n (pc2 := 6) rfl rfl rfl ?_
  refine z_getP (pc2 := 9) rfl rfl rfl rfl tz.1 ?_
  intro p2 p2e p2k
  replace p2k : p2 = some (z + 1) := p2k; clear p2e; subst p2k
  refine z_iconst (pc2 := 10) rfl rfl ?_
  refine z_aload_n (pc2 := 11) rfl rfl rfl ?_
  refine z_getP (pc2 := 14) rfl rfl rfl rfl tz.1 ?_
  intro p3 p3e p3k
  replace p3k : p3 = some (z + 1) := p3k; clear p3e; subst p3k
  refine z_alen (pc2 := 15) rfl rfl tz.2.1 rfl (by omega) ?_
  refine z_acopy (pc2 := 18) rfl rfl rfl rfl tx.2.1 tz.2.1 (by omega) (fun _ _ h => h) (fun I4 a4 => ?_)
  refine z_iconst (pc2 := 19) rfl rfl ?_
  refine z_istore_n (lv2 := [(2, _), (0, _), (1, _)]) (pc2 := 20) rfl rfl rfl rfl ?_
  refine z_lv (lv2 := [(0, _), (1, _), (2, _)]) ⟨rfl, rfl, rfl, trivial⟩ ?_
  have h0 : zKq z 0 I I4 P P := ⟨fun c k _ h2 _ => a4 c k h2, fun _ _ _ => rfl⟩
  exact cl_Floor_copyFrom1 hn hC ix iz hne (zFlr_k hfl ix iz (Or.inl rfl) hne h0) (fun I9 P9 G9 h9 h8 => hK I9 P9 G9 (zKq_tr h0 h9) h8) _ _ _ _ (by omega) zKq_rf (Nat.lt_succ_self _)
