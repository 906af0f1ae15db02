/-! the class: sorts that move, what sorts tell -/
set_option maxHeartbeats 8000000 in
theorem c_Room_keep {L : Nat} {xs : Nat → Int32} {n sl : Nat} {T : Nat → zT} {I : Nat → Nat → Int} {P : Nat → Nat → Option Nat} {G : Nat → Nat → Int} {K : List zV → zH → Prop} {b x z : Nat} (hn : 90 ≤ n) (hC : ∀ a, 1 ≤ a → a ≤ 55 → T a = zFixC a) (hb : b = 18 ∨ b = 37) (ix : x = 23 ∨ x = 30 ∨ x = 42 ∨ x = 49) (iz : z = 23 ∨ z = 30 ∨ z = 42 ∨ z = 49) (hne : x ≠ z) (hfl : zFlr T I P x) (hfx : P b 4 = some x) (hkz : P b 5 = some z) (hK : ∀ I2 P2 G2, zKr z b I I2 P P2 → zFlr T I2 P2 z → K [] (n, sl, T, I2, P2, G2)) : zX zMd L xs 77 [.inr (.inl (some b))] (n, sl, T, I, P, G) K := by
  have tb := zRm_t hC hb
  have tx := zFl_t hC ix
  have tz := zFl_t hC iz
  refine z_inl ?_
  refine z_lv (lv2 := [(0, _)]) ⟨rfl, trivial⟩ ?_
  refine z_aload_n (pc2 := 1) rfl rfl rfl ?_
  refine z_getP (pc2 := 4) rfl rfl rfl rfl tb.1 ?_
  intro p1 p1e p1k
  clear p1k; replace p1e : p1 = some z := by rw [p1e]; first | exact hkz | exact Eq.symm hkz | (simp [zU]; first | done | exact hkz | exact Eq.symm hkz | omega)
  subst p1e
  refine z_aload_n (pc2 := 5) rfl rfl rfl ?_
  refine z_getP (pc2 := 8) rfl rfl rfl rfl tb.1 ?_
  intro p2 p2e p2k
  clear p2k; replace p2e : p2 = some x := by rw [p2e]; first | exact hfx | exact Eq.symm hfx | (simp [zU]; first | done | exact hfx | exact Eq.symm hfx | omega)
  subst p2e
  refine z_callV (y2 := 22) (as := [_]) (rest := []) (pc2 := 11) rfl rfl rfl rfl tz.1 rfl ?_
  refine c_Floor_copyFrom hn hC ix iz hne hfl (fun I3 P3 G3 k3 f3 => ?_)
  show zB _ _ _ _ _ _ [] _ _
  refine z_aload_n (pc2 := 12) rfl rfl rfl ?_
  refine z_iconst (pc2 := 13) rfl rfl ?_
  refine z_putZ (pc2 := 16) rfl rfl rfl rfl rfl rfl tb.1 (by omega) True.intro ?_
  refine z_ret rfl rfl ?_
  exact hK _ _ _ ⟨zKq_b hb k3, k3.2⟩ (zFlr_b f3 (by omega))
set_option maxHeartbeats 8000000 in
theorem c_Sort_moveOne {L : Nat} {xs : Nat → Int32} {n sl : Nat} {T : Nat → zT} {I : Nat → Nat → Int} {P : Nat → Nat → Option Nat} {G : Nat → Nat → Int} {K : List zV → zH → Prop} {j kd mm : Int} {s w : Nat} (hn : 90 ≤ n) (hC : ∀ a, 1 ≤ a → a ≤ 55 → T a = zFixC a) (hj : -1 ≤ j ∧ j ≤ 1) (hkd : 0 ≤ kd ∧ kd ≤ 5) (hmm : 0 ≤ mm ∧ mm ≤ 24) (ts : T s = (1, 9, [1, kd, mm])) (sl9 : s ≤ n) (tw : T w = (2, 0, [144, 0])) (wl : w ≤ 90) (hK : ∀ e I2 G2, (∀ a k, a ≠ w → I2 a k = I a k) → K [.inl e] (n, sl, T, I2, P, G2)) : zX zMd L xs 91 [.inr (.inl (some s)), .inr (.inl (some w)), .inl j] (n, sl, T, I, P, G) K := by
  refine z_inl ?_
  refine z_lv (lv2 := [(0, _), (1, _), (2, _)]) ⟨rfl, rfl, rfl, trivial⟩ ?_
  refine z_aload_n (pc2 := 1) rfl rfl rfl ?_
  refine z_getP (pc2 := 4) rfl rfl rfl rfl ts ?_
  intro p1 p1e p1k
  obtain ⟨q2, rfl, q29, tq2, q2b⟩ := p1k
  replace tq2 : _ = ((1, 3, [mm]) : zT) := tq2
  refine zB_le tq2 trivial (fun q2l => ?_)
  refine z_aload_n (pc2 := 5) rfl rfl rfl ?_
  refine z_getI (pc2 := 8) 0 rfl rfl rfl rfl rfl ts ?_
  intro v3 e3 r3 k3
  replace k3 : kd = v3 := Eq.symm k3; clear r3 e3; subst k3
  refine z_aload_n (pc2 := 9) rfl rfl rfl ?_
  refine z_getI (pc2 := 12) 0 rfl rfl rfl rfl rfl ts ?_
  intro v4 e4 r4 k4
  replace k4 : (kd = 0 → 0 ≤ v4 ∧ v4 < mm) ∧ (kd = 1 → 0 ≤ v4 ∧ v4 ≤ 5) ∧ (kd = 4 → 0 ≤ v4 ∧ v4 ≤ 3) := k4
  clear e4
  refine z_callV (y2 := 44) (as := [_, _]) (rest := []) (pc2 := 15) rfl rfl rfl rfl tq2 rfl ?_
  refine c_Fount_boxOf hn hC (by omega) (by omega) (by omega) tq2 (by omega) (fun w5 w5r w5v => ?_)
  show zB _ _ _ _ _ _ [_] _ _
  refine z_istore_n (lv2 := [(3, _), (0, _), (1, _), (2, _)]) (pc2 := 16) rfl rfl rfl rfl ?_
  refine z_iload_n (pc2 := 17) rfl rfl rfl ?_
  refine z_iconst (pc2 := 18) rfl rfl ?_
  refine z_aload_n (pc2 := 19) rfl rfl rfl ?_
  refine z_alen (pc2 := 20) rfl rfl tw rfl (by omega) ?_
  refine z_iconst (pc2 := 21) rfl rfl ?_
  refine z_isub (pc2 := 22) rfl rfl ?_
  refine z_callS (y2 := 155) (as := [_, _, _]) (rest := []) (pc2 := 25) rfl rfl rfl rfl ?_
  refine c_TypeRoom_isOutside (by omega) (by omega) (by omega) (fun e6 e6a e6b e6c => ?_)
  show zB _ _ _ _ _ _ [_] _ _
  refine z_if_eq (t := 30) (pc2 := 28) rfl rfl rfl (by omega) (fun c7 => ?_) (fun c7 => ?_)
  ·
    refine z_aload_n (pc2 := 31) rfl rfl rfl ?_
    refine z_iload_n (pc2 := 32) rfl rfl rfl ?_
    refine z_dup2 (pc2 := 33) rfl rfl rfl rfl ?_
    refine z_iald (pc2 := 34) rfl rfl tw (by omega) (by omega) (by omega) ?_
    intro v8 e8 r8 k8
    clear k8
    clear e8
    refine z_iload_n (pc2 := 35) rfl rfl rfl ?_
    refine z_iadd (pc2 := 36) rfl rfl ?_
    refine z_iast_any (pc2 := 37) rfl rfl tw (by omega) (by omega) (by omega) (fun _ _ => True.intro) (fun u9 u9r => ?_)
    refine z_iconst (pc2 := 38) rfl rfl ?_
    refine z_iret rfl rfl ?_
    exact hK _ _ _ (by intro a k h; first | rfl | (rw [zU_row _ _ _ h]))
  ·
    refine z_iconst (pc2 := 29) rfl rfl ?_
    refine z_iret rfl rfl ?_
    exact hK _ _ _ (by intro a k h; first | rfl | (rw [zU_row _ _ _ h]))
set_option maxHeartbeats 8000000 in
theorem c_Sort_move {L : Nat} {xs : Nat → Int32} {n sl : Nat} {T : Nat → zT} {I : Nat → Nat → Int} {P : Nat → Nat → Option Nat} {G : Nat → Nat → Int} {K : List zV → zH → Prop} {j kd mm : Int} {s w : Nat} (hn : 90 ≤ n) (hC : ∀ a, 1 ≤ a → a ≤ 55 → T a = zFixC a) (hj : -1 ≤ j ∧ j ≤ 1) (hkd : 0 ≤ kd ∧ kd ≤ 5) (hmm : 0 ≤ mm ∧ mm ≤ 24) (ts : T s = (1, 9, [1, kd, mm])) (sl9 : s ≤ n) (tw : T w = (2, 0, [144, 0])) (wl : w ≤ 90) (hK : ∀ e I2 G2, (∀ a k, a ≠ w → I2 a k = I a k) → K [.inl e] (n, sl, T, I2, P, G2)) : zX zMd L xs 90 [.inr (.inl (some s)), .inr (.inl (some w)), .inl j] (n, sl, T, I, P, G) K := by
  refine z_inl ?_
  refine z_lv (lv2 := [(0, _), (1, _), (2, _)]) ⟨rfl, rfl, rfl, trivial⟩ ?_
  refine z_aload_n (pc2 := 1) rfl rfl rfl ?_
  refine z_getP (pc2 := 4) rfl rfl rfl rfl ts ?_
  intro p1 p1e p1k
  rcases p1k with ⟨p1d, ⟨q2, rfl, q29, d3, n4, tq2, q2c, q2b⟩⟩ | ⟨p1d, rfl⟩
  ·
    replace tq2 : _ = ((1, 9, [1, d3, n4]) : zT) := tq2
    refine zB_le tq2 trivial (fun q2l => ?_)
    refine z_ifnull (t := 14) (pc2 := 7) rfl rfl rfl (fun h => by cases h) (fun _ _ => ?_)
    refine z_aload_n (pc2 := 8) rfl rfl rfl ?_
    refine z_getP (pc2 := 11) rfl rfl rfl rfl ts ?_
    intro p5 p5e p5k
    rcases p5k with ⟨p5d, ⟨q6, rfl, q69, d7, n8, tq6, q6c, q6b⟩⟩ | ⟨p5d, rfl⟩
    ·
      replace tq6 : _ = ((1, 9, [1, d7, n8]) : zT) := tq6
      refine zB_le tq6 trivial (fun q6l => ?_)
      refine z_ifnonnull (t := 21) (pc2 := 14) rfl rfl rfl (fun _ _ => ?_) (fun h => by cases h)
      refine z_aload_n (pc2 := 22) rfl rfl rfl ?_
      refine z_getP (pc2 := 25) rfl rfl rfl rfl ts ?_
      intro p9 p9e p9k
      rcases p9k with ⟨p9d, ⟨q10, rfl, q109, d11, n12, tq10, q10c, q10b⟩⟩ | ⟨p9d, rfl⟩
      ·
        replace tq10 : _ = ((1, 9, [1, d11, n12]) : zT) := tq10
        refine zB_le tq10 trivial (fun q10l => ?_)
        refine z_aload_n (pc2 := 26) rfl rfl rfl ?_
        refine z_iload_n (pc2 := 27) rfl rfl rfl ?_
        refine z_callV (y2 := 91) (as := [_, _]) (rest := []) (pc2 := 30) rfl rfl rfl rfl tq10 rfl ?_
        refine c_Sort_moveOne hn hC (by omega) (by omega) (by omega) tq10 (by omega) tw (by omega) (fun w13 I13 G13 f13 => ?_)
        show zB _ _ _ _ _ _ [_] _ _
        refine z_aload_n (pc2 := 31) rfl rfl rfl ?_
        refine z_getP (pc2 := 34) rfl rfl rfl rfl ts ?_
        intro p14 p14e p14k
        rcases p14k with ⟨p14d, ⟨q15, rfl, q159, d16, n17, tq15, q15c, q15b⟩⟩ | ⟨p14d, rfl⟩
        ·
          replace tq15 : _ = ((1, 9, [1, d16, n17]) : zT) := tq15
          refine zB_le tq15 trivial (fun q15l => ?_)
          refine z_aload_n (pc2 := 35) rfl rfl rfl ?_
          refine z_iload_n (pc2 := 36) rfl rfl rfl ?_
          refine z_callV (y2 := 91) (as := [_, _]) (rest := [_]) (pc2 := 39) rfl rfl rfl rfl tq15 rfl ?_
          refine c_Sort_moveOne hn hC (by omega) (by omega) (by omega) tq15 (by omega) tw (by omega) (fun w18 I18 G18 f18 => ?_)
          replace f18 := fun a k h => (f18 a k h).trans (f13 a k h)
          show zB _ _ _ _ _ _ [_, _] _ _
          refine z_iadd (pc2 := 40) rfl rfl ?_
          refine z_iret rfl rfl ?_
          exact hK _ _ _ f18
        ·
          exfalso; omega
      ·
        exfalso; omega
    ·
      exfalso; omega
  ·
    refine z_ifnull (t := 14) (pc2 := 7) rfl rfl rfl (fun _ => ?_) (fun a h => by cases h)
    refine z_aload_n (pc2 := 15) rfl rfl rfl ?_
    refine z_aload_n (pc2 := 16) rfl rfl rfl ?_
    refine z_iload_n (pc2 := 17) rfl rfl rfl ?_
    refine z_callV (y2 := 91) (as := [_, _]) (rest := []) (pc2 := 20) rfl rfl rfl rfl ts rfl ?_
    refine c_Sort_moveOne hn hC (by omega) (by omega) (by omega) ts (by omega) tw (by omega) (fun w19 I19 G19 f19 => ?_)
    show zB _ _ _ _ _ _ [_] _ _
    refine z_iret rfl rfl ?_
    exact hK _ _ _ f19
set_option maxHeartbeats 8000000 in
theorem cl_Line_moveSorts {L : Nat} {xs : Nat → Int32} {n sl : Nat} {T : Nat → zT} {I : Nat → Nat → Int} {P : Nat → Nat → Option Nat} {K : List zV → zH → Prop} {j u : Int} {w ar : Nat} (hn : 90 ≤ n) (hC : ∀ a, 1 ≤ a → a ≤ 55 → T a = zFixC a) (hj : -1 ≤ j ∧ j ≤ 1) (hu : 0 ≤ u ∧ u ≤ 41) (tw : T w = (2, 0, [144, 0])) (wl : w ≤ 90) (ta : T ar = (2, 9, [u, 2])) (al : ar ≤ n) (hK : ∀ e I2 G2, (∀ a k, a ≠ w → I2 a k = I a k) → K [.inl e] (n, sl, T, I2, P, G2)) (m : Nat) : ∀ (I2 : Nat → Nat → Int) (G2 : Nat → Nat → Int), ∀ (s k : Int), 0 ≤ k ∧ k ≤ 41 → (∀ a k, a ≠ w → I2 a k = I a k) → (41 - k).toNat < m → zB zMd L xs 50 16 [(1, .inr (.inl (some w))), (2, .inl j), (3, .inl s), (4, .inr (.inl (some ar))), (5, .inl u), (6, .inl k)] [] (n, sl, T, I2, P, G2) K := by
  induction m with
  | zero => intro I2 G2 s k hk hI2 hm; omega
  | succ m ih =>
    intro I2 G2 s k hk hI2 hm
    refine z_iload (pc2 := 18) rfl rfl rfl ?_
    refine z_iload (pc2 := 20) rfl rfl rfl ?_
    refine z_icmp_ge (t := 46) (pc2 := 23) rfl rfl rfl (by omega) (by omega) (fun c1 => ?_) (fun c1 => ?_)
    ·
      refine z_iload_n (pc2 := 47) rfl rfl rfl ?_
      refine z_iret rfl rfl ?_
      exact hK _ _ _ hI2
    ·
      refine z_aload (pc2 := 25) rfl rfl rfl ?_
      refine z_iload (pc2 := 27) rfl rfl rfl ?_
      refine z_aald (pc2 := 28) rfl rfl ta rfl (by omega) (by omega) (by omega) ?_
      intro p2 p2e p2k
      obtain ⟨q3, rfl, q39, d4, n5, tq3, q3c, q3b⟩ := p2k (by omega)
      replace tq3 : _ = ((1, 9, [1, d4, n5]) : zT) := tq3
      refine zB_le tq3 trivial (fun q3l => ?_)
      refine z_astore (lv2 := [(7, _), (1, _), (2, _), (3, _), (4, _), (5, _), (6, _)]) (pc2 := 30) rfl rfl rfl rfl ?_
      refine z_iload_n (pc2 := 31) rfl rfl rfl ?_
      refine z_aload (pc2 := 33) rfl rfl rfl ?_
      refine z_aload_n (pc2 := 34) rfl rfl rfl ?_
      refine z_iload_n (pc2 := 35) rfl rfl rfl ?_
      refine z_callV (y2 := 90) (as := [_, _]) (rest := [_]) (pc2 := 38) rfl rfl rfl rfl tq3 rfl ?_
      refine c_Sort_move hn hC (by omega) (by omega) (by omega) tq3 (by omega) tw (by omega) (fun w6 I6 G6 f6 => ?_)
      replace f6 := fun a k h => (f6 a k h).trans (hI2 a k h)
      show zB _ _ _ _ _ _ [_, _] _ _
      refine z_iadd (pc2 := 39) rfl rfl ?_
      refine z_istore_n (lv2 := [(3, _), (7, _), (1, _), (2, _), (4, _), (5, _), (6, _)]) (pc2 := 40) rfl rfl rfl rfl ?_
      refine z_iinc (lv2 := [(6, _), (3, _), (7, _), (1, _), (2, _), (4, _), (5, _)]) (pc2 := 43) rfl rfl rfl rfl rfl ?_
      refine z_goto (pc2 := 16) rfl rfl ?_
      refine z_lv (lv2 := [(1, _), (2, _), (3, _), (4, _), (5, _), (6, _)]) ⟨rfl, rfl, rfl, rfl, rfl, rfl, trivial⟩ ?_
      exact ih _ _ _ _ (by omega) (by assumption) (by omega)
set_option maxHeartbeats 8000000 in
theorem c_Line_moveSorts {L : Nat} {xs : Nat → Int32} {n sl : Nat} {T : Nat → zT} {I : Nat → Nat → Int} {P : Nat → Nat → Option Nat} {G : Nat → Nat → Int} {K : List zV → zH → Prop} {j : Int} {ln w : Nat} (hn : 90 ≤ n) (hC : ∀ a, 1 ≤ a → a ≤ 55 → T a = zFixC a) (hj : -1 ≤ j ∧ j ≤ 1) (tl : T ln = (1, 4, [1])) (ll : ln ≤ n) (tw : T w = (2, 0, [144, 0])) (wl : w ≤ 90) (hK : ∀ e I2 G2, (∀ a k, a ≠ w → I2 a k = I a k) → K [.inl e] (n, sl, T, I2, P, G2)) : zX zMd L xs 50 [.inr (.inl (some ln)), .inr (.inl (some w)), .inl j] (n, sl, T, I, P, G) K := by
  refine z_inl ?_
  refine z_lv (lv2 := [(0, _), (1, _), (2, _)]) ⟨rfl, rfl, rfl, trivial⟩ ?_
  refine z_iconst (pc2 := 1) rfl rfl ?_
  refine z_istore_n (lv2 := [(3, _), (0, _), (1, _), (2, _)]) (pc2 := 2) rfl rfl rfl rfl ?_
  refine z_aload_n (pc2 := 3) rfl rfl rfl ?_
  refine z_getP (pc2 := 6) rfl rfl rfl rfl tl ?_
  intro p1 p1e p1k
  obtain ⟨q2, rfl, q29, m3, tq2, q2b⟩ := p1k
  replace tq2 : _ = ((2, 9, [(m3), 2]) : zT) := tq2
  refine zB_le tq2 trivial (fun q2l => ?_)
  refine z_astore (lv2 := [(4, _), (3, _), (0, _), (1, _), (2, _)]) (pc2 := 8) rfl rfl rfl rfl ?_
  refine z_aload (pc2 := 10) rfl rfl rfl ?_
  refine z_alen (pc2 := 11) rfl rfl tq2 rfl (by omega) ?_
  refine z_istore (lv2 := [(5, _), (4, _), (3, _), (0, _), (1, _), (2, _)]) (pc2 := 13) rfl rfl rfl rfl ?_
  refine z_iconst (pc2 := 14) rfl rfl ?_
  refine z_istore (lv2 := [(6, _), (5, _), (4, _), (3, _), (0, _), (1, _), (2, _)]) (pc2 := 16) rfl rfl rfl rfl ?_
  refine z_lv (lv2 := [(1, _), (2, _), (3, _), (4, _), (5, _), (6, _)]) ⟨rfl, rfl, rfl, rfl, rfl, rfl, trivial⟩ ?_
  exact cl_Line_moveSorts hn hC (by omega) (by omega) tw wl tq2 (by omega) hK _ _ _ _ _ (by omega) (fun _ _ _ => rfl) (Nat.lt_succ_self _)
set_option maxHeartbeats 8000000 in
theorem c_Trace_begin {L : Nat} {xs : Nat → Int32} {n sl : Nat} {T : Nat → zT} {I : Nat → Nat → Int} {P : Nat → Nat → Option Nat} {G : Nat → Nat → Int} {K : List zV → zH → Prop} {a : Int} (hn : 90 ≤ n) (hC : ∀ a, 1 ≤ a → a ≤ 55 → T a = zFixC a) (ha : zR a) (htr : I 3 1 ≤ 999999) (hK : ∀ I2 G2, I2 3 1 = I 3 1 + 1 → zTr I I2 → K [] (n, sl, T, I2, P, G2)) : zX zMd L xs 103 [.inr (.inl (some 3)), .inl a] (n, sl, T, I, P, G) K := by
  have t3 : T 3 = (1, 10, [1]) := hC 3 (by decide) (by decide)
  have t4 : T 4 = (2, 0, [60, 0]) := hC 4 (by decide) (by decide)
  refine z_inl ?_
  refine z_lv (lv2 := [(0, _), (1, _)]) ⟨rfl, rfl, trivial⟩ ?_
  refine z_aload_n (pc2 := 1) rfl rfl rfl ?_
  refine z_getI (pc2 := 4) 0 rfl rfl rfl rfl rfl t3 ?_
  intro v1 e1 r1 k1
  replace k1 : (0 : Int) ≤ v1 ∧ v1 ≤ 1000000 := k1
  refine z_bipush (pc2 := 6) rfl rfl (by decide) ?_
  refine z_icmp_ge (t := 19) (pc2 := 9) rfl rfl rfl (by omega) (by omega) (fun c2 => ?_) (fun c2 => ?_)
  ·
    refine z_aload_n (pc2 := 20) rfl rfl rfl ?_
    refine z_dup (pc2 := 21) rfl rfl rfl ?_
    refine z_getI (pc2 := 24) 0 rfl rfl rfl rfl rfl t3 ?_
    intro v3 e3 r3 k3
    replace k3 : (0 : Int) ≤ v3 ∧ v3 ≤ 1000000 := k3
    replace e3 : v1 = v3 := by rw [e3]; first | exact e1 | exact Eq.symm e1 | (simp [zU]; first | done | exact e1 | exact Eq.symm e1 | omega)
    subst e3
    refine z_iconst (pc2 := 25) rfl rfl ?_
    refine z_iadd (pc2 := 26) rfl rfl ?_
    refine z_putI (pc2 := 29) rfl rfl rfl rfl rfl rfl t3 (by omega) (by show (0 : Int) ≤ _ ∧ _ ≤ 1000000; omega) ?_
    refine z_ret rfl rfl ?_
    exact hK _ _ (by simp [zU]; omega) (by repeat (first | exact zTr_rf | refine zTr_1 ?_ | refine zTr_4 ?_))
  ·
    refine z_aload_n (pc2 := 10) rfl rfl rfl ?_
    refine z_getP (pc2 := 13) rfl rfl rfl rfl t3 ?_
    intro p4 p4e p4k
    replace p4k : p4 = some 4 := p4k; clear p4e; subst p4k
    refine z_aload_n (pc2 := 14) rfl rfl rfl ?_
    refine z_getI (pc2 := 17) 0 rfl rfl rfl rfl rfl t3 ?_
    intro v5 e5 r5 k5
    replace k5 : (0 : Int) ≤ v5 ∧ v5 ≤ 1000000 := k5
    replace e5 : v1 = v5 := by rw [e5]; first | exact e1 | exact Eq.symm e1 | (simp [zU]; first | done | exact e1 | exact Eq.symm e1 | omega)
    subst e5
    refine z_iload_n (pc2 := 18) rfl rfl rfl ?_
    refine z_iast (pc2 := 19) rfl rfl t4 (by omega) (by omega) (by omega) (by omega) True.intro ?_
    refine z_aload_n (pc2 := 20) rfl rfl rfl ?_
    refine z_dup (pc2 := 21) rfl rfl rfl ?_
    refine z_getI (pc2 := 24) 0 rfl rfl rfl rfl rfl t3 ?_
    intro v6 e6 r6 k6
    replace k6 : (0 : Int) ≤ v6 ∧ v6 ≤ 1000000 := k6
    replace e6 : v1 = v6 := by rw [e6]; first | exact e1 | exact Eq.symm e1 | (simp [zU]; first | done | exact e1 | exact Eq.symm e1 | omega)
    subst e6
    refine z_iconst (pc2 := 25) rfl rfl ?_
    refine z_iadd (pc2 := 26) rfl rfl ?_
    refine z_putI (pc2 := 29) rfl rfl rfl rfl rfl rfl t3 (by omega) (by show (0 : Int) ≤ _ ∧ _ ≤ 1000000; omega) ?_
    refine z_ret rfl rfl ?_
    exact hK _ _ (by simp [zU]; omega) (by repeat (first | exact zTr_rf | refine zTr_1 ?_ | refine zTr_4 ?_))
set_option maxHeartbeats 8000000 in
theorem c_Sort_letterWide {L : Nat} {xs : Nat → Int32} {n sl : Nat} {T : Nat → zT} {I : Nat → Nat → Int} {P : Nat → Nat → Option Nat} {G : Nat → Nat → Int} {K : List zV → zH → Prop} {kd mm : Int} {s : Nat} (hn : 90 ≤ n) (hC : ∀ a, 1 ≤ a → a ≤ 55 → T a = zFixC a) (hkd : 0 ≤ kd ∧ kd ≤ 1) (hmm : 0 ≤ mm ∧ mm ≤ 24) (ts : T s = (1, 9, [1, kd, mm])) (sl9 : s ≤ n) (htr : I 3 1 ≤ 999998) (hK : ∀ e I2 G2, I2 3 1 ≤ I 3 1 + 1 → zTr I I2 → zR e → K [.inl e] (n, sl, T, I2, P, G2)) : zX zMd L xs 93 [.inr (.inl (some s)), .inr (.inl (some 3))] (n, sl, T, I, P, G) K := by
  have t3 : T 3 = (1, 10, [1]) := hC 3 (by decide) (by decide)
  refine z_inl ?_
  refine z_lv (lv2 := [(0, _), (1, _)]) ⟨rfl, rfl, trivial⟩ ?_
  refine z_aload_n (pc2 := 1) rfl rfl rfl ?_
  refine z_aload_n (pc2 := 2) rfl rfl rfl ?_
  refine z_getI (pc2 := 5) 0 rfl rfl rfl rfl rfl ts ?_
  intro v1 e1 r1 k1
  replace k1 : kd = v1 := Eq.symm k1; clear r1 e1; subst k1
  refine z_iconst (pc2 := 6) rfl rfl ?_
  refine z_icmp_ne (t := 13) (pc2 := 9) rfl rfl rfl (by omega) (by omega) (fun c2 => ?_) (fun c2 => ?_)
  ·
    refine z_iconst (pc2 := 14) rfl rfl ?_
    refine z_callV (y2 := 103) (as := [_]) (rest := []) (pc2 := 17) rfl rfl rfl rfl t3 rfl ?_
    refine c_Trace_begin hn hC (by omega) (by first | omega | (simp [zU] <;> omega)) (fun I3 G3 h3 z3 => ?_)
    try simp [zU] at h3
    replace z3 := zTr_tr zTr_rf z3
    show zB _ _ _ _ _ _ [] _ _
    refine z_aload_n (pc2 := 18) rfl rfl rfl ?_
    refine z_getI (pc2 := 21) 0 rfl rfl rfl rfl rfl ts ?_
    intro v4 e4 r4 k4
    replace k4 : kd = v4 := Eq.symm k4; clear r4 e4; subst k4
    refine z_iconst (pc2 := 22) rfl rfl ?_
    refine z_icmp_ne (t := 40) (pc2 := 25) rfl rfl rfl (by omega) (by omega) (fun c5 => ?_) (fun c5 => by exfalso; omega)
    refine z_aload_n (pc2 := 41) rfl rfl rfl ?_
    refine z_getP (pc2 := 44) rfl rfl rfl rfl ts ?_
    intro p6 p6e p6k
    obtain ⟨q7, rfl, q79, tq7, q7b⟩ := p6k
    replace tq7 : _ = ((1, 3, [mm]) : zT) := tq7
    refine zB_le tq7 trivial (fun q7l => ?_)
    refine z_getP (pc2 := 47) rfl rfl rfl rfl tq7 ?_
    intro p8 p8e p8k
    obtain ⟨q9, rfl, q99, tq9, -⟩ := p8k
    replace tq9 : _ = ((2, 0, [(mm), 0]) : zT) := tq9
    refine zB_le tq9 trivial (fun q9l => ?_)
    refine z_aload_n (pc2 := 48) rfl rfl rfl ?_
    refine z_getI (pc2 := 51) 0 rfl rfl rfl rfl rfl ts ?_
    intro v10 e10 r10 k10
    replace k10 : (kd = 0 → 0 ≤ v10 ∧ v10 < mm) ∧ (kd = 1 → 0 ≤ v10 ∧ v10 ≤ 5) ∧ (kd = 4 → 0 ≤ v10 ∧ v10 ≤ 3) := k10
    clear e10
    refine z_iald (pc2 := 52) rfl rfl tq9 (by omega) (by omega) (by omega) ?_
    intro v11 e11 r11 k11
    clear k11
    clear e11
    refine z_iret rfl rfl ?_
    exact hK _ _ _ (by omega) z3 (by omega)
  ·
    refine z_iconst (pc2 := 10) rfl rfl ?_
    refine z_goto (pc2 := 14) rfl rfl ?_
    refine z_callV (y2 := 103) (as := [_]) (rest := []) (pc2 := 17) rfl rfl rfl rfl t3 rfl ?_
    refine c_Trace_begin hn hC (by omega) (by first | omega | (simp [zU] <;> omega)) (fun I12 G12 h12 z12 => ?_)
    try simp [zU] at h12
    replace z12 := zTr_tr zTr_rf z12
    show zB _ _ _ _ _ _ [] _ _
    refine z_aload_n (pc2 := 18) rfl rfl rfl ?_
    refine z_getI (pc2 := 21) 0 rfl rfl rfl rfl rfl ts ?_
    intro v13 e13 r13 k13
    replace k13 : kd = v13 := Eq.symm k13; clear r13 e13; subst k13
    refine z_iconst (pc2 := 22) rfl rfl ?_
    refine z_icmp_ne (t := 40) (pc2 := 25) rfl rfl rfl (by omega) (by omega) (fun c14 => by exfalso; omega) (fun c14 => ?_)
    refine z_aload_n (pc2 := 26) rfl rfl rfl ?_
    refine z_getP (pc2 := 29) rfl rfl rfl rfl ts ?_
    intro p15 p15e p15k
    obtain ⟨q16, rfl, q169, tq16, q16b⟩ := p15k
    replace tq16 : _ = ((1, 3, [mm]) : zT) := tq16
    refine zB_le tq16 trivial (fun q16l => ?_)
    refine z_getP (pc2 := 32) rfl rfl rfl rfl tq16 ?_
    intro p17 p17e p17k
    obtain ⟨q18, rfl, q189, tq18, -⟩ := p17k
    replace tq18 : _ = ((2, 0, [6, 0]) : zT) := tq18
    refine zB_le tq18 trivial (fun q18l => ?_)
    refine z_aload_n (pc2 := 33) rfl rfl rfl ?_
    refine z_getI (pc2 := 36) 0 rfl rfl rfl rfl rfl ts ?_
    intro v19 e19 r19 k19
    replace k19 : (kd = 0 → 0 ≤ v19 ∧ v19 < mm) ∧ (kd = 1 → 0 ≤ v19 ∧ v19 ≤ 5) ∧ (kd = 4 → 0 ≤ v19 ∧ v19 ≤ 3) := k19
    clear e19
    refine z_iald (pc2 := 37) rfl rfl tq18 (by omega) (by omega) (by omega) ?_
    intro v20 e20 r20 k20
    clear k20
    clear e20
    refine z_goto (pc2 := 52) rfl rfl ?_
    refine z_iret rfl rfl ?_
    exact hK _ _ _ (by omega) z12 (by omega)
set_option maxHeartbeats 8000000 in
theorem c_Sort_base {L : Nat} {xs : Nat → Int32} {n sl : Nat} {T : Nat → zT} {I : Nat → Nat → Int} {P : Nat → Nat → Option Nat} {G : Nat → Nat → Int} {K : List zV → zH → Prop} {kd mm : Int} {s : Nat} (hn : 90 ≤ n) (hC : ∀ a, 1 ≤ a → a ≤ 55 → T a = zFixC a) (hkd : 0 ≤ kd ∧ kd ≤ 5) (hmm : 0 ≤ mm ∧ mm ≤ 24) (ts : T s = (1, 9, [1, kd, mm])) (sl9 : s ≤ n) (htr : I 3 1 ≤ 999998) (hK : ∀ e I2 G2, I2 3 1 ≤ I 3 1 + 1 → zTr I I2 → K [.inl e] (n, sl, T, I2, P, G2)) : zX zMd L xs 94 [.inr (.inl (some s)), .inr (.inl (some 3))] (n, sl, T, I, P, G) K := by
  have t3 : T 3 = (1, 10, [1]) := hC 3 (by decide) (by decide)
  refine z_inl ?_
  refine z_lv (lv2 := [(0, _), (1, _)]) ⟨rfl, rfl, trivial⟩ ?_
  refine z_aload_n (pc2 := 1) rfl rfl rfl ?_
  refine z_aload_n (pc2 := 2) rfl rfl rfl ?_
  refine z_getI (pc2 := 5) 0 rfl rfl rfl rfl rfl ts ?_
  intro v1 e1 r1 k1
  replace k1 : kd = v1 := Eq.symm k1; clear r1 e1; subst k1
  refine z_iconst (pc2 := 6) rfl rfl ?_
  refine z_icmp_ne (t := 14) (pc2 := 9) rfl rfl rfl (by omega) (by omega) (fun c2 => ?_) (fun c2 => ?_)
  ·
    refine z_bipush (pc2 := 16) rfl rfl (by decide) ?_
    refine z_callV (y2 := 103) (as := [_]) (rest := []) (pc2 := 19) rfl rfl rfl rfl t3 rfl ?_
    refine c_Trace_begin hn hC (by omega) (by first | omega | (simp [zU] <;> omega)) (fun I3 G3 h3 z3 => ?_)
    try simp [zU] at h3
    replace z3 := zTr_tr zTr_rf z3
    show zB _ _ _ _ _ _ [] _ _
    refine z_aload_n (pc2 := 20) rfl rfl rfl ?_
    refine z_getI (pc2 := 23) 0 rfl rfl rfl rfl rfl ts ?_
    intro v4 e4 r4 k4
    replace k4 : kd = v4 := Eq.symm k4; clear r4 e4; subst k4
    refine z_iconst (pc2 := 24) rfl rfl ?_
    refine z_icmp_ne (t := 37) (pc2 := 27) rfl rfl rfl (by omega) (by omega) (fun c5 => ?_) (fun c5 => ?_)
    ·
      refine z_iconst (pc2 := 38) rfl rfl ?_
      refine z_iret rfl rfl ?_
      exact hK _ _ _ (by omega) z3
    ·
      refine z_aload_n (pc2 := 28) rfl rfl rfl ?_
      refine z_getP (pc2 := 31) rfl rfl rfl rfl ts ?_
      intro p6 p6e p6k
      obtain ⟨q7, rfl, q79, tq7, q7b⟩ := p6k
      replace tq7 : _ = ((1, 3, [mm]) : zT) := tq7
      refine zB_le tq7 trivial (fun q7l => ?_)
      refine z_getI (pc2 := 34) 0 rfl rfl rfl rfl rfl tq7 ?_
      intro v8 e8 r8 k8
      clear k8
      clear e8
      refine z_goto (pc2 := 38) rfl rfl ?_
      refine z_iret rfl rfl ?_
      exact hK _ _ _ (by omega) z3
  ·
    refine z_bipush (pc2 := 11) rfl rfl (by decide) ?_
    refine z_goto (pc2 := 16) rfl rfl ?_
    refine z_callV (y2 := 103) (as := [_]) (rest := []) (pc2 := 19) rfl rfl rfl rfl t3 rfl ?_
    refine c_Trace_begin hn hC (by omega) (by first | omega | (simp [zU] <;> omega)) (fun I9 G9 h9 z9 => ?_)
    try simp [zU] at h9
    replace z9 := zTr_tr zTr_rf z9
    show zB _ _ _ _ _ _ [] _ _
    refine z_aload_n (pc2 := 20) rfl rfl rfl ?_
    refine z_getI (pc2 := 23) 0 rfl rfl rfl rfl rfl ts ?_
    intro v10 e10 r10 k10
    replace k10 : kd = v10 := Eq.symm k10; clear r10 e10; subst k10
    refine z_iconst (pc2 := 24) rfl rfl ?_
    refine z_icmp_ne (t := 37) (pc2 := 27) rfl rfl rfl (by omega) (by omega) (fun c11 => by exfalso; omega) (fun c11 => ?_)
    refine z_aload_n (pc2 := 28) rfl rfl rfl ?_
    refine z_getP (pc2 := 31) rfl rfl rfl rfl ts ?_
    intro p12 p12e p12k
    obtain ⟨q13, rfl, q139, tq13, q13b⟩ := p12k
    replace tq13 : _ = ((1, 3, [mm]) : zT) := tq13
    refine zB_le tq13 trivial (fun q13l => ?_)
    refine z_getI (pc2 := 34) 0 rfl rfl rfl rfl rfl tq13 ?_
    intro v14 e14 r14 k14
    clear k14
    clear e14
    refine z_goto (pc2 := 38) rfl rfl ?_
    refine z_iret rfl rfl ?_
    exact hK _ _ _ (by omega) z9
set_option maxHeartbeats 8000000 in
theorem c_Sort_wide {L : Nat} {xs : Nat → Int32} {n sl : Nat} {T : Nat → zT} {I : Nat → Nat → Int} {P : Nat → Nat → Option Nat} {G : Nat → Nat → Int} {K : List zV → zH → Prop} {kd mm : Int} {s : Nat} (hn : 90 ≤ n) (hC : ∀ a, 1 ≤ a → a ≤ 55 → T a = zFixC a) (hkd : 0 ≤ kd ∧ kd ≤ 5) (hmm : 0 ≤ mm ∧ mm ≤ 24) (ts : T s = (1, 9, [1, kd, mm])) (sl9 : s ≤ n) (htr : I 3 1 ≤ 999996) (hK : ∀ e I2 G2, I2 3 1 ≤ I 3 1 + 3 → zTr I I2 → K [.inl e] (n, sl, T, I2, P, G2)) : zX zMd L xs 92 [.inr (.inl (some s)), .inr (.inl (some 3))] (n, sl, T, I, P, G) K := by
  have t3 : T 3 = (1, 10, [1]) := hC 3 (by decide) (by decide)
  refine z_inl ?_
  refine z_lv (lv2 := [(0, _), (1, _)]) ⟨rfl, rfl, trivial⟩ ?_
  refine z_aload_n (pc2 := 1) rfl rfl rfl ?_
  refine z_getP (pc2 := 4) rfl rfl rfl rfl ts ?_
  intro p1 p1e p1k
  rcases p1k with ⟨p1d, ⟨q2, rfl, q29, d3, n4, tq2, q2c, q2b⟩⟩ | ⟨p1d, rfl⟩
  ·
    replace tq2 : _ = ((1, 9, [1, d3, n4]) : zT) := tq2
    refine zB_le tq2 trivial (fun q2l => ?_)
    refine z_ifnull (t := 39) (pc2 := 7) rfl rfl rfl (fun h => by cases h) (fun _ _ => ?_)
    refine z_aload_n (pc2 := 8) rfl rfl rfl ?_
    refine z_getP (pc2 := 11) rfl rfl rfl rfl ts ?_
    intro p5 p5e p5k
    rcases p5k with ⟨p5d, ⟨q6, rfl, q69, d7, n8, tq6, q6c, q6b⟩⟩ | ⟨p5d, rfl⟩
    ·
      replace tq6 : _ = ((1, 9, [1, d7, n8]) : zT) := tq6
      refine zB_le tq6 trivial (fun q6l => ?_)
      refine z_ifnull (t := 39) (pc2 := 14) rfl rfl rfl (fun h => by cases h) (fun _ _ => ?_)
      refine z_aload_n (pc2 := 15) rfl rfl rfl ?_
      refine z_iconst (pc2 := 16) rfl rfl ?_
      refine z_callV (y2 := 103) (as := [_]) (rest := []) (pc2 := 19) rfl rfl rfl rfl t3 rfl ?_
      refine c_Trace_begin hn hC (by omega) (by first | omega | (simp [zU] <;> omega)) (fun I9 G9 h9 z9 => ?_)
      try simp [zU] at h9
      replace z9 := zTr_tr zTr_rf z9
      show zB _ _ _ _ _ _ [] _ _
      refine z_aload_n (pc2 := 20) rfl rfl rfl ?_
      refine z_getP (pc2 := 23) rfl rfl rfl rfl ts ?_
      intro p10 p10e p10k
      rcases p10k with ⟨p10d, ⟨q11, rfl, q119, d12, n13, tq11, q11c, q11b⟩⟩ | ⟨p10d, rfl⟩
      ·
        replace tq11 : _ = ((1, 9, [1, d12, n13]) : zT) := tq11
        refine zB_le tq11 trivial (fun q11l => ?_)
        refine z_aload_n (pc2 := 24) rfl rfl rfl ?_
        refine z_callV (y2 := 93) (as := [_]) (rest := []) (pc2 := 27) rfl rfl rfl rfl tq11 rfl ?_
        refine c_Sort_letterWide hn hC (by omega) (by omega) tq11 (by omega) (by first | omega | (simp [zU] <;> omega)) (fun w14 I14 G14 h14 z14 r14 => ?_)
        try simp [zU] at h14
        replace z14 := zTr_tr z9 z14
        show zB _ _ _ _ _ _ [_] _ _
        refine z_aload_n (pc2 := 28) rfl rfl rfl ?_
        refine z_getP (pc2 := 31) rfl rfl rfl rfl ts ?_
        intro p15 p15e p15k
        rcases p15k with ⟨p15d, ⟨q16, rfl, q169, d17, n18, tq16, q16c, q16b⟩⟩ | ⟨p15d, rfl⟩
        ·
          replace tq16 : _ = ((1, 9, [1, d17, n18]) : zT) := tq16
          refine zB_le tq16 trivial (fun q16l => ?_)
          refine z_aload_n (pc2 := 32) rfl rfl rfl ?_
          refine z_callV (y2 := 93) (as := [_]) (rest := [_]) (pc2 := 35) rfl rfl rfl rfl tq16 rfl ?_
          refine c_Sort_letterWide hn hC (by omega) (by omega) tq16 (by omega) (by first | omega | (simp [zU] <;> omega)) (fun w19 I19 G19 h19 z19 r19 => ?_)
          try simp [zU] at h19
          replace z19 := zTr_tr z14 z19
          show zB _ _ _ _ _ _ [_, _] _ _
          refine z_max (pc2 := 38) rfl rfl rfl rfl (by omega) (by omega) (fun v20 v20a v20b => ?_)
          refine z_iret rfl rfl ?_
          exact hK _ _ _ (by omega) z19
        ·
          exfalso; omega
      ·
        exfalso; omega
    ·
      exfalso; omega
  ·
    refine z_ifnull (t := 39) (pc2 := 7) rfl rfl rfl (fun _ => ?_) (fun a h => by cases h)
    refine z_aload_n (pc2 := 40) rfl rfl rfl ?_
    refine z_callV (y2 := 86) (as := []) (rest := []) (pc2 := 43) rfl rfl rfl rfl ts rfl ?_
    refine z_inl ?_
    refine z_lv (lv2 := [(0, _)]) ⟨rfl, trivial⟩ ?_
    refine z_aload_n (pc2 := 1) rfl rfl rfl ?_
    refine z_getI (pc2 := 4) 0 rfl rfl rfl rfl rfl ts ?_
    intro v21 e21 r21 k21
    replace k21 : kd = v21 := Eq.symm k21; clear r21 e21; subst k21
    refine z_iconst (pc2 := 5) rfl rfl ?_
    refine z_icmp_eq (t := 16) (pc2 := 8) rfl rfl rfl (by omega) (by omega) (fun c22 => ?_) (fun c22 => ?_)
    ·
      refine z_iconst (pc2 := 17) rfl rfl ?_
      refine z_goto (pc2 := 21) rfl rfl ?_
      refine z_zret rfl rfl (by omega) ?_
      show zB _ _ _ _ _ _ [_] _ _
      refine z_if_eq (t := 62) (pc2 := 46) rfl rfl rfl (by omega) (fun c23 => by exfalso; omega) (fun c23 => ?_)
      refine z_aload_n (pc2 := 47) rfl rfl rfl ?_
      refine z_iconst (pc2 := 48) rfl rfl ?_
      refine z_callV (y2 := 103) (as := [_]) (rest := []) (pc2 := 51) rfl rfl rfl rfl t3 rfl ?_
      refine c_Trace_begin hn hC (by omega) (by first | omega | (simp [zU] <;> omega)) (fun I24 G24 h24 z24 => ?_)
      try simp [zU] at h24
      replace z24 := zTr_tr zTr_rf z24
      show zB _ _ _ _ _ _ [] _ _
      refine z_aload_n (pc2 := 52) rfl rfl rfl ?_
      refine z_aload_n (pc2 := 53) rfl rfl rfl ?_
      refine z_callV (y2 := 94) (as := [_]) (rest := []) (pc2 := 56) rfl rfl rfl rfl ts rfl ?_
      refine c_Sort_base hn hC (by omega) (by omega) ts (by omega) (by first | omega | (simp [zU] <;> omega)) (fun w25 I25 G25 h25 z25 => ?_)
      try simp [zU] at h25
      replace z25 := zTr_tr z24 z25
      show zB _ _ _ _ _ _ [_] _ _
      refine z_aload_n (pc2 := 57) rfl rfl rfl ?_
      refine z_getI (pc2 := 60) 0 rfl rfl rfl rfl rfl ts ?_
      intro v26 e26 r26 k26
      clear k26
      clear e26
      refine z_iadd (pc2 := 61) rfl rfl ?_
      refine z_iret rfl rfl ?_
      exact hK _ _ _ (by omega) z25
    ·
      refine z_aload_n (pc2 := 9) rfl rfl rfl ?_
      refine z_getI (pc2 := 12) 0 rfl rfl rfl rfl rfl ts ?_
      intro v27 e27 r27 k27
      replace k27 : kd = v27 := Eq.symm k27; clear r27 e27; subst k27
      refine z_iconst (pc2 := 13) rfl rfl ?_
      refine z_icmp_ne (t := 20) (pc2 := 16) rfl rfl rfl (by omega) (by omega) (fun c28 => ?_) (fun c28 => ?_)
      ·
        refine z_iconst (pc2 := 21) rfl rfl ?_
        refine z_zret rfl rfl (by omega) ?_
        show zB _ _ _ _ _ _ [_] _ _
        refine z_if_eq (t := 62) (pc2 := 46) rfl rfl rfl (by omega) (fun c29 => ?_) (fun c29 => by exfalso; omega)
        refine z_aload_n (pc2 := 63) rfl rfl rfl ?_
        refine z_getI (pc2 := 66) 0 rfl rfl rfl rfl rfl ts ?_
        intro v30 e30 r30 k30
        replace k30 : kd = v30 := Eq.symm k30; clear r30 e30; subst k30
        refine z_iconst (pc2 := 67) rfl rfl ?_
        refine z_icmp_ne (t := 88) (pc2 := 70) rfl rfl rfl (by omega) (by omega) (fun c31 => ?_) (fun c31 => ?_)
        ·
          refine z_aload_n (pc2 := 89) rfl rfl rfl ?_
          refine z_aload_n (pc2 := 90) rfl rfl rfl ?_
          refine z_callV (y2 := 93) (as := [_]) (rest := []) (pc2 := 93) rfl rfl rfl rfl ts rfl ?_
          refine c_Sort_letterWide hn hC (by omega) (by omega) ts (by omega) (by first | omega | (simp [zU] <;> omega)) (fun w32 I32 G32 h32 z32 r32 => ?_)
          try simp [zU] at h32
          replace z32 := zTr_tr zTr_rf z32
          show zB _ _ _ _ _ _ [_] _ _
          refine z_iret rfl rfl ?_
          exact hK _ _ _ (by omega) z32
        ·
          refine z_aload_n (pc2 := 71) rfl rfl rfl ?_
          refine z_iconst (pc2 := 72) rfl rfl ?_
          refine z_callV (y2 := 103) (as := [_]) (rest := []) (pc2 := 75) rfl rfl rfl rfl t3 rfl ?_
          refine c_Trace_begin hn hC (by omega) (by first | omega | (simp [zU] <;> omega)) (fun I33 G33 h33 z33 => ?_)
          try simp [zU] at h33
          replace z33 := zTr_tr zTr_rf z33
          show zB _ _ _ _ _ _ [] _ _
          refine z_aload_n (pc2 := 76) rfl rfl rfl ?_
          refine z_getP (pc2 := 79) rfl rfl rfl rfl ts ?_
          intro p34 p34e p34k
          obtain ⟨q35, rfl, q359, tq35, q35b⟩ := p34k
          replace tq35 : _ = ((1, 3, [mm]) : zT) := tq35
          refine zB_le tq35 trivial (fun q35l => ?_)
          refine z_getP (pc2 := 82) rfl rfl rfl rfl tq35 ?_
          intro p36 p36e p36k
          obtain ⟨q37, rfl, q379, tq37, -⟩ := p36k
          replace tq37 : _ = ((2, 0, [4, 0]) : zT) := tq37
          refine zB_le tq37 trivial (fun q37l => ?_)
          refine z_aload_n (pc2 := 83) rfl rfl rfl ?_
          refine z_getI (pc2 := 86) 0 rfl rfl rfl rfl rfl ts ?_
          intro v38 e38 r38 k38
          replace k38 : (kd = 0 → 0 ≤ v38 ∧ v38 < mm) ∧ (kd = 1 → 0 ≤ v38 ∧ v38 ≤ 5) ∧ (kd = 4 → 0 ≤ v38 ∧ v38 ≤ 3) := k38
          clear e38
          refine z_iald (pc2 := 87) rfl rfl tq37 (by omega) (by omega) (by omega) ?_
          intro v39 e39 r39 k39
          clear k39
          clear e39
          refine z_iret rfl rfl ?_
          exact hK _ _ _ (by omega) z33
      ·
        refine z_iconst (pc2 := 17) rfl rfl ?_
        refine z_goto (pc2 := 21) rfl rfl ?_
        refine z_zret rfl rfl (by omega) ?_
        show zB _ _ _ _ _ _ [_] _ _
        refine z_if_eq (t := 62) (pc2 := 46) rfl rfl rfl (by omega) (fun c40 => by exfalso; omega) (fun c40 => ?_)
        refine z_aload_n (pc2 := 47) rfl rfl rfl ?_
        refine z_iconst (pc2 := 48) rfl rfl ?_
        refine z_callV (y2 := 103) (as := [_]) (rest := []) (pc2 := 51) rfl rfl rfl rfl t3 rfl ?_
        refine c_Trace_begin hn hC (by omega) (by first | omega | (simp [zU] <;> omega)) (fun I41 G41 h41 z41 => ?_)
        try simp [zU] at h41
        replace z41 := zTr_tr zTr_rf z41
        show zB _ _ _ _ _ _ [] _ _
        refine z_aload_n (pc2 := 52) rfl rfl rfl ?_
        refine z_aload_n (pc2 := 53) rfl rfl rfl ?_
        refine z_callV (y2 := 94) (as := [_]) (rest := []) (pc2 := 56) rfl rfl rfl rfl ts rfl ?_
        refine c_Sort_base hn hC (by omega) (by omega) ts (by omega) (by first | omega | (simp [zU] <;> omega)) (fun w42 I42 G42 h42 z42 => ?_)
        try simp [zU] at h42
        replace z42 := zTr_tr z41 z42
        show zB _ _ _ _ _ _ [_] _ _
        refine z_aload_n (pc2 := 57) rfl rfl rfl ?_
        refine z_getI (pc2 := 60) 0 rfl rfl rfl rfl rfl ts ?_
        intro v43 e43 r43 k43
        clear k43
        clear e43
        refine z_iadd (pc2 := 61) rfl rfl ?_
        refine z_iret rfl rfl ?_
        exact hK _ _ _ (by omega) z42
set_option maxHeartbeats 8000000 in
theorem c_Sort_share {L : Nat} {xs : Nat → Int32} {n sl : Nat} {T : Nat → zT} {I : Nat → Nat → Int} {P : Nat → Nat → Option Nat} {G : Nat → Nat → Int} {K : List zV → zH → Prop} {kd mm : Int} {s : Nat} (hn : 90 ≤ n) (hC : ∀ a, 1 ≤ a → a ≤ 55 → T a = zFixC a) (hkd : 0 ≤ kd ∧ kd ≤ 5) (hmm : 0 ≤ mm ∧ mm ≤ 24) (ts : T s = (1, 9, [1, kd, mm])) (sl9 : s ≤ n) (htr : I 3 1 ≤ 999997) (hK : ∀ e I2 G2, I2 3 1 ≤ I 3 1 + 2 → zTr I I2 → K [.inl e] (n, sl, T, I2, P, G2)) : zX zMd L xs 95 [.inr (.inl (some s)), .inr (.inl (some 3))] (n, sl, T, I, P, G) K := by
  have t3 : T 3 = (1, 10, [1]) := hC 3 (by decide) (by decide)
  refine z_inl ?_
  refine z_lv (lv2 := [(0, _), (1, _)]) ⟨rfl, rfl, trivial⟩ ?_
  refine z_aload_n (pc2 := 1) rfl rfl rfl ?_
  refine z_getI (pc2 := 4) 0 rfl rfl rfl rfl rfl ts ?_
  intro v1 e1 r1 k1
  replace k1 : kd = v1 := Eq.symm k1; clear r1 e1; subst k1
  refine z_iconst (pc2 := 5) rfl rfl ?_
  refine z_icmp_ne (t := 22) (pc2 := 8) rfl rfl rfl (by omega) (by omega) (fun c2 => ?_) (fun c2 => ?_)
  ·
    refine z_aload_n (pc2 := 23) rfl rfl rfl ?_
    refine z_aload_n (pc2 := 24) rfl rfl rfl ?_
    refine z_callV (y2 := 96) (as := [_]) (rest := []) (pc2 := 27) rfl rfl rfl rfl ts rfl ?_
    refine z_inl ?_
    refine z_lv (lv2 := [(0, _), (1, _)]) ⟨rfl, rfl, trivial⟩ ?_
    refine z_aload_n (pc2 := 1) rfl rfl rfl ?_
    refine z_bipush (pc2 := 3) rfl rfl (by decide) ?_
    refine z_callV (y2 := 103) (as := [_]) (rest := []) (pc2 := 6) rfl rfl rfl rfl t3 rfl ?_
    refine c_Trace_begin hn hC (by omega) (by first | omega | (simp [zU] <;> omega)) (fun I3 G3 h3 z3 => ?_)
    try simp [zU] at h3
    replace z3 := zTr_tr zTr_rf z3
    show zB _ _ _ _ _ _ [] _ _
    refine z_iconst (pc2 := 7) rfl rfl ?_
    refine z_iret rfl rfl ?_
    show zB _ _ _ _ _ _ [_] _ _
    refine z_iret rfl rfl ?_
    exact hK _ _ _ (by omega) z3
  ·
    refine z_aload_n (pc2 := 9) rfl rfl rfl ?_
    refine z_bipush (pc2 := 11) rfl rfl (by decide) ?_
    refine z_callV (y2 := 103) (as := [_]) (rest := []) (pc2 := 14) rfl rfl rfl rfl t3 rfl ?_
    refine c_Trace_begin hn hC (by omega) (by first | omega | (simp [zU] <;> omega)) (fun I4 G4 h4 z4 => ?_)
    try simp [zU] at h4
    replace z4 := zTr_tr zTr_rf z4
    show zB _ _ _ _ _ _ [] _ _
    refine z_aload_n (pc2 := 15) rfl rfl rfl ?_
    refine z_aload_n (pc2 := 16) rfl rfl rfl ?_
    refine z_callV (y2 := 96) (as := [_]) (rest := []) (pc2 := 19) rfl rfl rfl rfl ts rfl ?_
    refine z_inl ?_
    refine z_lv (lv2 := [(0, _), (1, _)]) ⟨rfl, rfl, trivial⟩ ?_
    refine z_aload_n (pc2 := 1) rfl rfl rfl ?_
    refine z_bipush (pc2 := 3) rfl rfl (by decide) ?_
    refine z_callV (y2 := 103) (as := [_]) (rest := []) (pc2 := 6) rfl rfl rfl rfl t3 rfl ?_
    refine c_Trace_begin hn hC (by omega) (by first | omega | (simp [zU] <;> omega)) (fun I5 G5 h5 z5 => ?_)
    try simp [zU] at h5
    replace z5 := zTr_tr z4 z5
    show zB _ _ _ _ _ _ [] _ _
    refine z_iconst (pc2 := 7) rfl rfl ?_
    refine z_iret rfl rfl ?_
    show zB _ _ _ _ _ _ [_] _ _
    refine z_iconst (pc2 := 20) rfl rfl ?_
    refine z_iadd (pc2 := 21) rfl rfl ?_
    refine z_iret rfl rfl ?_
    exact hK _ _ _ (by omega) z5
set_option maxHeartbeats 8000000 in
theorem c_Sort_plainLetterInk {L : Nat} {xs : Nat → Int32} {n sl : Nat} {T : Nat → zT} {I : Nat → Nat → Int} {P : Nat → Nat → Option Nat} {G : Nat → Nat → Int} {K : List zV → zH → Prop} {kd mm : Int} {s : Nat} (hn : 90 ≤ n) (hC : ∀ a, 1 ≤ a → a ≤ 55 → T a = zFixC a) (hkd : 0 ≤ kd ∧ kd ≤ 1) (hmm : 0 ≤ mm ∧ mm ≤ 24) (ts : T s = (1, 9, [1, kd, mm])) (sl9 : s ≤ n) (htr : I 3 1 ≤ 999998) (hK : ∀ e I2 G2, I2 3 1 ≤ I 3 1 + 1 → zTr I I2 → K [.inl e] (n, sl, T, I2, P, G2)) : zX zMd L xs 100 [.inr (.inl (some s)), .inr (.inl (some 3))] (n, sl, T, I, P, G) K := by
  have t3 : T 3 = (1, 10, [1]) := hC 3 (by decide) (by decide)
  refine z_inl ?_
  refine z_lv (lv2 := [(0, _), (1, _)]) ⟨rfl, rfl, trivial⟩ ?_
  refine z_aload_n (pc2 := 1) rfl rfl rfl ?_
  refine z_bipush (pc2 := 3) rfl rfl (by decide) ?_
  refine z_callV (y2 := 103) (as := [_]) (rest := []) (pc2 := 6) rfl rfl rfl rfl t3 rfl ?_
  refine c_Trace_begin hn hC (by omega) (by first | omega | (simp [zU] <;> omega)) (fun I1 G1 h1 z1 => ?_)
  try simp [zU] at h1
  replace z1 := zTr_tr zTr_rf z1
  show zB _ _ _ _ _ _ [] _ _
  refine z_iconst (pc2 := 7) rfl rfl ?_
  refine z_aload_n (pc2 := 8) rfl rfl rfl ?_
  refine z_callV (y2 := 89) (as := []) (rest := [_]) (pc2 := 11) rfl rfl rfl rfl ts rfl ?_
  refine z_inl ?_
  refine z_lv (lv2 := [(0, _)]) ⟨rfl, trivial⟩ ?_
  refine z_aload_n (pc2 := 1) rfl rfl rfl ?_
  refine z_getI (pc2 := 4) 0 rfl rfl rfl rfl rfl ts ?_
  intro v2 e2 r2 k2
  replace k2 : kd = v2 := Eq.symm k2; clear r2 e2; subst k2
  refine z_iconst (pc2 := 5) rfl rfl ?_
  refine z_icmp_ne (t := 22) (pc2 := 8) rfl rfl rfl (by omega) (by omega) (fun c3 => ?_) (fun c3 => ?_)
  ·
    refine z_aload_n (pc2 := 23) rfl rfl rfl ?_
    refine z_getI (pc2 := 26) 0 rfl rfl rfl rfl rfl ts ?_
    intro v4 e4 r4 k4
    replace k4 : (kd = 0 → 0 ≤ v4 ∧ v4 < mm) ∧ (kd = 1 → 0 ≤ v4 ∧ v4 ≤ 5) ∧ (kd = 4 → 0 ≤ v4 ∧ v4 ≤ 3) := k4
    clear e4
    refine z_iret rfl rfl ?_
    show zB _ _ _ _ _ _ [_, _] _ _
    refine z_imul (pc2 := 12) rfl rfl ?_
    refine z_bipush (pc2 := 14) rfl rfl (by decide) ?_
    refine z_iadd (pc2 := 15) rfl rfl ?_
    refine z_iret rfl rfl ?_
    exact hK _ _ _ (by omega) z1
  ·
    refine z_aload_n (pc2 := 9) rfl rfl rfl ?_
    refine z_getP (pc2 := 12) rfl rfl rfl rfl ts ?_
    intro p5 p5e p5k
    obtain ⟨q6, rfl, q69, tq6, q6b⟩ := p5k
    replace tq6 : _ = ((1, 3, [mm]) : zT) := tq6
    refine zB_le tq6 trivial (fun q6l => ?_)
    refine z_aload_n (pc2 := 13) rfl rfl rfl ?_
    refine z_getI (pc2 := 16) 0 rfl rfl rfl rfl rfl ts ?_
    intro v7 e7 r7 k7
    replace k7 : (kd = 0 → 0 ≤ v7 ∧ v7 < mm) ∧ (kd = 1 → 0 ≤ v7 ∧ v7 ≤ 5) ∧ (kd = 4 → 0 ≤ v7 ∧ v7 ≤ 3) := k7
    clear e7
    refine z_callV (y2 := 40) (as := [_]) (rest := []) (pc2 := 19) rfl rfl rfl rfl tq6 rfl ?_
    refine z_inl ?_
    refine z_lv (lv2 := [(0, _), (1, _)]) ⟨rfl, rfl, trivial⟩ ?_
    refine z_aload_n (pc2 := 1) rfl rfl rfl ?_
    refine z_getP (pc2 := 4) rfl rfl rfl rfl tq6 ?_
    intro p8 p8e p8k
    obtain ⟨q9, rfl, q99, tq9, -⟩ := p8k
    replace tq9 : _ = ((2, 0, [18, 26, mm]) : zT) := tq9
    refine zB_le tq9 trivial (fun q9l => ?_)
    refine z_iload_n (pc2 := 5) rfl rfl rfl ?_
    refine z_iconst (pc2 := 6) rfl rfl ?_
    refine z_imul (pc2 := 7) rfl rfl ?_
    refine z_iald (pc2 := 8) rfl rfl tq9 (by omega) (by omega) (by omega) ?_
    intro v10 e10 r10 k10
    replace k10 := ok_26 k10
    clear e10
    refine z_iret rfl rfl ?_
    show zB _ _ _ _ _ _ [_] _ _
    refine z_goto (pc2 := 26) rfl rfl ?_
    refine z_iret rfl rfl ?_
    show zB _ _ _ _ _ _ [_, _] _ _
    refine z_imul (pc2 := 12) rfl rfl ?_
    refine z_bipush (pc2 := 14) rfl rfl (by decide) ?_
    refine z_iadd (pc2 := 15) rfl rfl ?_
    refine z_iret rfl rfl ?_
    exact hK _ _ _ (by omega) z1
set_option maxHeartbeats 8000000 in
theorem c_Sort_letterInk {L : Nat} {xs : Nat → Int32} {n sl : Nat} {T : Nat → zT} {I : Nat → Nat → Int} {P : Nat → Nat → Option Nat} {G : Nat → Nat → Int} {K : List zV → zH → Prop} {kd mm : Int} {s : Nat} (hn : 90 ≤ n) (hC : ∀ a, 1 ≤ a → a ≤ 55 → T a = zFixC a) (hkd : 0 ≤ kd ∧ kd ≤ 1) (hmm : 0 ≤ mm ∧ mm ≤ 24) (ts : T s = (1, 9, [1, kd, mm])) (sl9 : s ≤ n) (htr : I 3 1 ≤ 999997) (hK : ∀ e I2 G2, I2 3 1 ≤ I 3 1 + 2 → zTr I I2 → K [.inl e] (n, sl, T, I2, P, G2)) : zX zMd L xs 99 [.inr (.inl (some s)), .inr (.inl (some 3))] (n, sl, T, I, P, G) K := by
  have t3 : T 3 = (1, 10, [1]) := hC 3 (by decide) (by decide)
  refine z_inl ?_
  refine z_lv (lv2 := [(0, _), (1, _)]) ⟨rfl, rfl, trivial⟩ ?_
  refine z_aload_n (pc2 := 1) rfl rfl rfl ?_
  refine z_getI (pc2 := 4) 0 rfl rfl rfl rfl rfl ts ?_
  intro v1 e1 r1 k1
  replace k1 : kd = v1 := Eq.symm k1; clear r1 e1; subst k1
  refine z_iconst (pc2 := 5) rfl rfl ?_
  refine z_icmp_ne (t := 28) (pc2 := 8) rfl rfl rfl (by omega) (by omega) (fun c2 => ?_) (fun c2 => ?_)
  ·
    refine z_aload_n (pc2 := 29) rfl rfl rfl ?_
    refine z_aload_n (pc2 := 30) rfl rfl rfl ?_
    refine z_callV (y2 := 100) (as := [_]) (rest := []) (pc2 := 33) rfl rfl rfl rfl ts rfl ?_
    refine c_Sort_plainLetterInk hn hC (by omega) (by omega) ts (by omega) (by first | omega | (simp [zU] <;> omega)) (fun w3 I3 G3 h3 z3 => ?_)
    try simp [zU] at h3
    replace z3 := zTr_tr zTr_rf z3
    show zB _ _ _ _ _ _ [_] _ _
    refine z_iret rfl rfl ?_
    exact hK _ _ _ (by omega) z3
  ·
    refine z_aload_n (pc2 := 9) rfl rfl rfl ?_
    refine z_bipush (pc2 := 11) rfl rfl (by decide) ?_
    refine z_callV (y2 := 103) (as := [_]) (rest := []) (pc2 := 14) rfl rfl rfl rfl t3 rfl ?_
    refine c_Trace_begin hn hC (by omega) (by first | omega | (simp [zU] <;> omega)) (fun I4 G4 h4 z4 => ?_)
    try simp [zU] at h4
    replace z4 := zTr_tr zTr_rf z4
    show zB _ _ _ _ _ _ [] _ _
    refine z_aload_n (pc2 := 15) rfl rfl rfl ?_
    refine z_aload_n (pc2 := 16) rfl rfl rfl ?_
    refine z_callV (y2 := 100) (as := [_]) (rest := []) (pc2 := 19) rfl rfl rfl rfl ts rfl ?_
    refine c_Sort_plainLetterInk hn hC (by omega) (by omega) ts (by omega) (by first | omega | (simp [zU] <;> omega)) (fun w5 I5 G5 h5 z5 => ?_)
    try simp [zU] at h5
    replace z5 := zTr_tr z4 z5
    show zB _ _ _ _ _ _ [_] _ _
    refine z_bipush (pc2 := 21) rfl rfl (by decide) ?_
    refine z_iadd (pc2 := 22) rfl rfl ?_
    refine z_aload_n (pc2 := 23) rfl rfl rfl ?_
    refine z_getI (pc2 := 26) 0 rfl rfl rfl rfl rfl ts ?_
    intro v6 e6 r6 k6
    replace k6 : (kd = 0 → 0 ≤ v6 ∧ v6 < mm) ∧ (kd = 1 → 0 ≤ v6 ∧ v6 ≤ 5) ∧ (kd = 4 → 0 ≤ v6 ∧ v6 ≤ 3) := k6
    clear e6
    refine z_iadd (pc2 := 27) rfl rfl ?_
    refine z_iret rfl rfl ?_
    exact hK _ _ _ (by omega) z5
set_option maxHeartbeats 8000000 in
theorem c_Sort_lentInk {L : Nat} {xs : Nat → Int32} {n sl : Nat} {T : Nat → zT} {I : Nat → Nat → Int} {P : Nat → Nat → Option Nat} {G : Nat → Nat → Int} {K : List zV → zH → Prop} {kd mm : Int} {s : Nat} (hn : 90 ≤ n) (hC : ∀ a, 1 ≤ a → a ≤ 55 → T a = zFixC a) (hkd : 0 ≤ kd ∧ kd ≤ 5) (hmm : 0 ≤ mm ∧ mm ≤ 24) (ts : T s = (1, 9, [1, kd, mm])) (sl9 : s ≤ n) (htr : I 3 1 ≤ 999995) (hK : ∀ e I2 G2, I2 3 1 ≤ I 3 1 + 4 → zTr I I2 → K [.inl e] (n, sl, T, I2, P, G2)) : zX zMd L xs 98 [.inr (.inl (some s)), .inr (.inl (some 3))] (n, sl, T, I, P, G) K := by
  have t3 : T 3 = (1, 10, [1]) := hC 3 (by decide) (by decide)
  refine z_inl ?_
  refine z_lv (lv2 := [(0, _), (1, _)]) ⟨rfl, rfl, trivial⟩ ?_
  refine z_aload_n (pc2 := 1) rfl rfl rfl ?_
  refine z_bipush (pc2 := 3) rfl rfl (by decide) ?_
  refine z_callV (y2 := 103) (as := [_]) (rest := []) (pc2 := 6) rfl rfl rfl rfl t3 rfl ?_
  refine c_Trace_begin hn hC (by omega) (by first | omega | (simp [zU] <;> omega)) (fun I1 G1 h1 z1 => ?_)
  try simp [zU] at h1
  replace z1 := zTr_tr zTr_rf z1
  show zB _ _ _ _ _ _ [] _ _
  refine z_aload_n (pc2 := 7) rfl rfl rfl ?_
  refine z_aload_n (pc2 := 8) rfl rfl rfl ?_
  refine z_callV (y2 := 92) (as := [_]) (rest := []) (pc2 := 11) rfl rfl rfl rfl ts rfl ?_
  refine c_Sort_wide hn hC (by omega) (by omega) ts (by omega) (by first | omega | (simp [zU] <;> omega)) (fun w2 I2 G2 h2 z2 => ?_)
  try simp [zU] at h2
  replace z2 := zTr_tr z1 z2
  show zB _ _ _ _ _ _ [_] _ _
  refine z_bipush (pc2 := 13) rfl rfl (by decide) ?_
  refine z_iadd (pc2 := 14) rfl rfl ?_
  refine z_iret rfl rfl ?_
  exact hK _ _ _ (by omega) z2
set_option maxHeartbeats 8000000 in
theorem c_Sort_ink {L : Nat} {xs : Nat → Int32} {n sl : Nat} {T : Nat → zT} {I : Nat → Nat → Int} {P : Nat → Nat → Option Nat} {G : Nat → Nat → Int} {K : List zV → zH → Prop} {kd mm : Int} {s : Nat} (hn : 90 ≤ n) (hC : ∀ a, 1 ≤ a → a ≤ 55 → T a = zFixC a) (hkd : 0 ≤ kd ∧ kd ≤ 5) (hmm : 0 ≤ mm ∧ mm ≤ 24) (ts : T s = (1, 9, [1, kd, mm])) (sl9 : s ≤ n) (htr : I 3 1 ≤ 999994) (hK : ∀ e I2 G2, I2 3 1 ≤ I 3 1 + 5 → zTr I I2 → K [.inl e] (n, sl, T, I2, P, G2)) : zX zMd L xs 97 [.inr (.inl (some s)), .inr (.inl (some 3))] (n, sl, T, I, P, G) K := by
  have t3 : T 3 = (1, 10, [1]) := hC 3 (by decide) (by decide)
  refine z_inl ?_
  refine z_lv (lv2 := [(0, _), (1, _)]) ⟨rfl, rfl, trivial⟩ ?_
  refine z_aload_n (pc2 := 1) rfl rfl rfl ?_
  refine z_getP (pc2 := 4) rfl rfl rfl rfl ts ?_
  intro p1 p1e p1k
  rcases p1k with ⟨p1d, ⟨q2, rfl, q29, d3, n4, tq2, q2c, q2b⟩⟩ | ⟨p1d, rfl⟩
  ·
    replace tq2 : _ = ((1, 9, [1, d3, n4]) : zT) := tq2
    refine zB_le tq2 trivial (fun q2l => ?_)
    refine z_ifnull (t := 40) (pc2 := 7) rfl rfl rfl (fun h => by cases h) (fun _ _ => ?_)
    refine z_aload_n (pc2 := 8) rfl rfl rfl ?_
    refine z_getP (pc2 := 11) rfl rfl rfl rfl ts ?_
    intro p5 p5e p5k
    rcases p5k with ⟨p5d, ⟨q6, rfl, q69, d7, n8, tq6, q6c, q6b⟩⟩ | ⟨p5d, rfl⟩
    ·
      replace tq6 : _ = ((1, 9, [1, d7, n8]) : zT) := tq6
      refine zB_le tq6 trivial (fun q6l => ?_)
      refine z_ifnull (t := 40) (pc2 := 14) rfl rfl rfl (fun h => by cases h) (fun _ _ => ?_)
      refine z_aload_n (pc2 := 15) rfl rfl rfl ?_
      refine z_bipush (pc2 := 17) rfl rfl (by decide) ?_
      refine z_callV (y2 := 103) (as := [_]) (rest := []) (pc2 := 20) rfl rfl rfl rfl t3 rfl ?_
      refine c_Trace_begin hn hC (by omega) (by first | omega | (simp [zU] <;> omega)) (fun I9 G9 h9 z9 => ?_)
      try simp [zU] at h9
      replace z9 := zTr_tr zTr_rf z9
      show zB _ _ _ _ _ _ [] _ _
      refine z_iconst (pc2 := 21) rfl rfl ?_
      refine z_aload_n (pc2 := 22) rfl rfl rfl ?_
      refine z_getP (pc2 := 25) rfl rfl rfl rfl ts ?_
      intro p10 p10e p10k
      rcases p10k with ⟨p10d, ⟨q11, rfl, q119, d12, n13, tq11, q11c, q11b⟩⟩ | ⟨p10d, rfl⟩
      ·
        replace tq11 : _ = ((1, 9, [1, d12, n13]) : zT) := tq11
        refine zB_le tq11 trivial (fun q11l => ?_)
        refine z_aload_n (pc2 := 26) rfl rfl rfl ?_
        refine z_callV (y2 := 99) (as := [_]) (rest := [_]) (pc2 := 29) rfl rfl rfl rfl tq11 rfl ?_
        refine c_Sort_letterInk hn hC (by omega) (by omega) tq11 (by omega) (by first | omega | (simp [zU] <;> omega)) (fun w14 I14 G14 h14 z14 => ?_)
        try simp [zU] at h14
        replace z14 := zTr_tr z9 z14
        show zB _ _ _ _ _ _ [_, _] _ _
        refine z_imul (pc2 := 30) rfl rfl ?_
        refine z_aload_n (pc2 := 31) rfl rfl rfl ?_
        refine z_getP (pc2 := 34) rfl rfl rfl rfl ts ?_
        intro p15 p15e p15k
        rcases p15k with ⟨p15d, ⟨q16, rfl, q169, d17, n18, tq16, q16c, q16b⟩⟩ | ⟨p15d, rfl⟩
        ·
          replace tq16 : _ = ((1, 9, [1, d17, n18]) : zT) := tq16
          refine zB_le tq16 trivial (fun q16l => ?_)
          refine z_aload_n (pc2 := 35) rfl rfl rfl ?_
          refine z_callV (y2 := 99) (as := [_]) (rest := [_]) (pc2 := 38) rfl rfl rfl rfl tq16 rfl ?_
          refine c_Sort_letterInk hn hC (by omega) (by omega) tq16 (by omega) (by first | omega | (simp [zU] <;> omega)) (fun w19 I19 G19 h19 z19 => ?_)
          try simp [zU] at h19
          replace z19 := zTr_tr z14 z19
          show zB _ _ _ _ _ _ [_, _] _ _
          refine z_iadd (pc2 := 39) rfl rfl ?_
          refine z_iret rfl rfl ?_
          exact hK _ _ _ (by omega) z19
        ·
          exfalso; omega
      ·
        exfalso; omega
    ·
      exfalso; omega
  ·
    refine z_ifnull (t := 40) (pc2 := 7) rfl rfl rfl (fun _ => ?_) (fun a h => by cases h)
    refine z_aload_n (pc2 := 41) rfl rfl rfl ?_
    refine z_callV (y2 := 85) (as := []) (rest := []) (pc2 := 44) rfl rfl rfl rfl ts rfl ?_
    refine z_inl ?_
    refine z_lv (lv2 := [(0, _)]) ⟨rfl, trivial⟩ ?_
    refine z_aload_n (pc2 := 1) rfl rfl rfl ?_
    refine z_getI (pc2 := 4) 0 rfl rfl rfl rfl rfl ts ?_
    intro v20 e20 r20 k20
    replace k20 : kd = v20 := Eq.symm k20; clear r20 e20; subst k20
    refine z_if_eq (t := 15) (pc2 := 7) rfl rfl rfl (by omega) (fun c21 => ?_) (fun c21 => ?_)
    ·
      refine z_iconst (pc2 := 16) rfl rfl ?_
      refine z_goto (pc2 := 20) rfl rfl ?_
      refine z_zret rfl rfl (by omega) ?_
      show zB _ _ _ _ _ _ [_] _ _
      refine z_if_eq (t := 55) (pc2 := 47) rfl rfl rfl (by omega) (fun c22 => by exfalso; omega) (fun c22 => ?_)
      refine z_aload_n (pc2 := 48) rfl rfl rfl ?_
      refine z_aload_n (pc2 := 49) rfl rfl rfl ?_
      refine z_callV (y2 := 99) (as := [_]) (rest := []) (pc2 := 52) rfl rfl rfl rfl ts rfl ?_
      refine c_Sort_letterInk hn hC (by omega) (by omega) ts (by omega) (by first | omega | (simp [zU] <;> omega)) (fun w23 I23 G23 h23 z23 => ?_)
      try simp [zU] at h23
      replace z23 := zTr_tr zTr_rf z23
      show zB _ _ _ _ _ _ [_] _ _
      refine z_goto (pc2 := 60) rfl rfl ?_
      refine z_iret rfl rfl ?_
      exact hK _ _ _ (by omega) z23
    ·
      refine z_aload_n (pc2 := 8) rfl rfl rfl ?_
      refine z_getI (pc2 := 11) 0 rfl rfl rfl rfl rfl ts ?_
      intro v24 e24 r24 k24
      replace k24 : kd = v24 := Eq.symm k24; clear r24 e24; subst k24
      refine z_iconst (pc2 := 12) rfl rfl ?_
      refine z_icmp_ne (t := 19) (pc2 := 15) rfl rfl rfl (by omega) (by omega) (fun c25 => ?_) (fun c25 => ?_)
      ·
        refine z_iconst (pc2 := 20) rfl rfl ?_
        refine z_zret rfl rfl (by omega) ?_
        show zB _ _ _ _ _ _ [_] _ _
        refine z_if_eq (t := 55) (pc2 := 47) rfl rfl rfl (by omega) (fun c26 => ?_) (fun c26 => by exfalso; omega)
        refine z_aload_n (pc2 := 56) rfl rfl rfl ?_
        refine z_aload_n (pc2 := 57) rfl rfl rfl ?_
        refine z_callV (y2 := 98) (as := [_]) (rest := []) (pc2 := 60) rfl rfl rfl rfl ts rfl ?_
        refine c_Sort_lentInk hn hC (by omega) (by omega) ts (by omega) (by first | omega | (simp [zU] <;> omega)) (fun w27 I27 G27 h27 z27 => ?_)
        try simp [zU] at h27
        replace z27 := zTr_tr zTr_rf z27
        show zB _ _ _ _ _ _ [_] _ _
        refine z_iret rfl rfl ?_
        exact hK _ _ _ (by omega) z27
      ·
        refine z_iconst (pc2 := 16) rfl rfl ?_
        refine z_goto (pc2 := 20) rfl rfl ?_
        refine z_zret rfl rfl (by omega) ?_
        show zB _ _ _ _ _ _ [_] _ _
        refine z_if_eq (t := 55) (pc2 := 47) rfl rfl rfl (by omega) (fun c28 => by exfalso; omega) (fun c28 => ?_)
        refine z_aload_n (pc2 := 48) rfl rfl rfl ?_
        refine z_aload_n (pc2 := 49) rfl rfl rfl ?_
        refine z_callV (y2 := 99) (as := [_]) (rest := []) (pc2 := 52) rfl rfl rfl rfl ts rfl ?_
        refine c_Sort_letterInk hn hC (by omega) (by omega) ts (by omega) (by first | omega | (simp [zU] <;> omega)) (fun w29 I29 G29 h29 z29 => ?_)
        try simp [zU] at h29
        replace z29 := zTr_tr zTr_rf z29
        show zB _ _ _ _ _ _ [_] _ _
        refine z_goto (pc2 := 60) rfl rfl ?_
        refine z_iret rfl rfl ?_
        exact hK _ _ _ (by omega) z29
