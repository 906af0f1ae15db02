/-! the class: what many call -/
set_option maxHeartbeats 8000000 in
theorem c_TypeRoom_isOutside {L : Nat} {xs : Nat → Int32} {n sl : Nat} {T : Nat → zT} {I : Nat → Nat → Int} {P : Nat → Nat → Option Nat} {G : Nat → Nat → Int} {K : List zV → zH → Prop} {v lo hi : Int} (hv : zR v) (hlo : zR lo) (hhi : zR hi) (hK : ∀ e, (e = 0 ∨ e = 1) → (e = 0 → lo ≤ v ∧ v ≤ hi) → (e = 1 → v < lo ∨ hi < v) → K [.inl e] (n, sl, T, I, P, G)) : zX zMd L xs 155 [.inl v, .inl lo, .inl hi] (n, sl, T, I, P, G) K := by
  refine z_inl ?_
  refine z_lv (lv2 := [(0, _), (1, _), (2, _)]) ⟨rfl, rfl, rfl, trivial⟩ ?_
  refine z_iload_n (pc2 := 1) rfl rfl rfl ?_
  refine z_iload_n (pc2 := 2) rfl rfl rfl ?_
  refine z_icmp_lt (t := 10) (pc2 := 5) rfl rfl rfl (by omega) (by omega) (fun c1 => ?_) (fun c1 => ?_)
  ·
    refine z_iconst (pc2 := 11) rfl rfl ?_
    refine z_goto (pc2 := 15) rfl rfl ?_
    refine z_zret rfl rfl (by omega) ?_
    exact hK _ (by omega) (by omega) (by omega)
  ·
    refine z_iload_n (pc2 := 6) rfl rfl rfl ?_
    refine z_iload_n (pc2 := 7) rfl rfl rfl ?_
    refine z_icmp_le (t := 14) (pc2 := 10) rfl rfl rfl (by omega) (by omega) (fun c2 => ?_) (fun c2 => ?_)
    ·
      refine z_iconst (pc2 := 15) rfl rfl ?_
      refine z_zret rfl rfl (by omega) ?_
      exact hK _ (by omega) (by omega) (by omega)
    ·
      refine z_iconst (pc2 := 11) rfl rfl ?_
      refine z_goto (pc2 := 15) rfl rfl ?_
      refine z_zret rfl rfl (by omega) ?_
      exact hK _ (by omega) (by omega) (by omega)
set_option maxHeartbeats 8000000 in
theorem cl_Floor_sortsIn {L : Nat} {xs : Nat → Int32} {n sl : Nat} {T : Nat → zT} {I : Nat → Nat → Int} {P : Nat → Nat → Option Nat} {G : Nat → Nat → Int} {K : List zV → zH → Prop} {f : Int} {x : Nat} (hn : 90 ≤ n) (hC : ∀ a, 1 ≤ a → a ≤ 55 → T a = zFixC a) (hf : 0 ≤ f ∧ f ≤ 3) (ix : x = 23 ∨ x = 30 ∨ x = 42 ∨ x = 49) (hK : ∀ e, K [.inl e] (n, sl, T, I, P, G)) (m : Nat) : ∀ (s k : Int), 0 ≤ k ∧ k ≤ 36 → (36 - k).toNat < m → zB zMd L xs 26 4 [(0, .inr (.inl (some x))), (1, .inl f), (2, .inl s), (3, .inl k)] [] (n, sl, T, I, P, G) K := by
  have tx := zFl_t hC ix
  induction m with
  | zero => intro s k hk hm; omega
  | succ m ih =>
    intro s k hk hm
    refine z_iload_n (pc2 := 5) rfl rfl rfl ?_
    refine z_bipush (pc2 := 7) rfl rfl (by decide) ?_
    refine z_icmp_ge (t := 30) (pc2 := 10) rfl rfl rfl (by omega) (by omega) (fun c1 => ?_) (fun c1 => ?_)
    ·
      refine z_iload_n (pc2 := 31) rfl rfl rfl ?_
      refine z_iret rfl rfl ?_
      exact hK _
    ·
      refine z_iload_n (pc2 := 11) rfl rfl rfl ?_
      refine z_aload_n (pc2 := 12) rfl rfl rfl ?_
      refine z_getP (pc2 := 15) rfl rfl rfl rfl tx.1 ?_
      intro p2 p2e p2k
      replace p2k : p2 = some (x + 1) := p2k; clear p2e; subst p2k
      refine z_iload_n (pc2 := 16) rfl rfl rfl ?_
      refine z_bipush (pc2 := 18) rfl rfl (by decide) ?_
      refine z_imul (pc2 := 19) rfl rfl ?_
      refine z_iload_n (pc2 := 20) rfl rfl rfl ?_
      refine z_iadd (pc2 := 21) rfl rfl ?_
      refine z_iald (pc2 := 22) rfl rfl tx.2.1 (by omega) (by omega) (by omega) ?_
      intro v3 e3 r3 k3
      clear k3
      clear e3
      refine z_iadd (pc2 := 23) rfl rfl ?_
      refine z_istore_n (lv2 := [(2, _), (0, _), (1, _), (3, _)]) (pc2 := 24) rfl rfl rfl rfl ?_
      refine z_iinc (lv2 := [(3, _), (2, _), (0, _), (1, _)]) (pc2 := 27) rfl rfl rfl rfl rfl ?_
      refine z_goto (pc2 := 4) rfl rfl ?_
      refine z_lv (lv2 := [(0, _), (1, _), (2, _), (3, _)]) ⟨rfl, rfl, rfl, rfl, trivial⟩ ?_
      exact ih _ _ (by omega) (by omega)
set_option maxHeartbeats 8000000 in
theorem c_Floor_sortsIn {L : Nat} {xs : Nat → Int32} {n sl : Nat} {T : Nat → zT} {I : Nat → Nat → Int} {P : Nat → Nat → Option Nat} {G : Nat → Nat → Int} {K : List zV → zH → Prop} {f : Int} {x : Nat} (hn : 90 ≤ n) (hC : ∀ a, 1 ≤ a → a ≤ 55 → T a = zFixC a) (hf : 0 ≤ f ∧ f ≤ 3) (ix : x = 23 ∨ x = 30 ∨ x = 42 ∨ x = 49) (hK : ∀ e, K [.inl e] (n, sl, T, I, P, G)) : zX zMd L xs 26 [.inr (.inl (some x)), .inl f] (n, sl, T, I, P, G) K := by
  have tx := zFl_t hC ix
  refine z_inl ?_
  refine z_lv (lv2 := [(0, _), (1, _)]) ⟨rfl, rfl, trivial⟩ ?_
  refine z_iconst (pc2 := 1) rfl rfl ?_
  refine z_istore_n (lv2 := [(2, _), (0, _), (1, _)]) (pc2 := 2) rfl rfl rfl rfl ?_
  refine z_iconst (pc2 := 3) rfl rfl ?_
  refine z_istore_n (lv2 := [(3, _), (2, _), (0, _), (1, _)]) (pc2 := 4) rfl rfl rfl rfl ?_
  refine z_lv (lv2 := [(0, _), (1, _), (2, _), (3, _)]) ⟨rfl, rfl, rfl, rfl, trivial⟩ ?_
  exact cl_Floor_sortsIn hn hC (by omega) ix hK _  _ _ (by omega)    (Nat.lt_succ_self _)
set_option maxHeartbeats 8000000 in
theorem c_Room_sortsOutOf {L : Nat} {xs : Nat → Int32} {n sl : Nat} {T : Nat → zT} {I : Nat → Nat → Int} {P : Nat → Nat → Option Nat} {G : Nat → Nat → Int} {K : List zV → zH → Prop} {f : Int} {b : Nat} (hn : 90 ≤ n) (hC : ∀ a, 1 ≤ a → a ≤ 55 → T a = zFixC a) (hf : 0 ≤ f ∧ f ≤ 3) (hb : b = 18 ∨ b = 37) (hK : ∀ e, K [.inl e] (n, sl, T, I, P, G)) : zX zMd L xs 81 [.inr (.inl (some b)), .inl f] (n, sl, T, I, P, G) K := by
  have tb := zRm_t hC hb
  refine z_inl ?_
  refine z_lv (lv2 := [(0, _), (1, _)]) ⟨rfl, rfl, trivial⟩ ?_
  refine z_aload_n (pc2 := 1) rfl rfl rfl ?_
  refine z_getP (pc2 := 4) rfl rfl rfl rfl tb.1 ?_
  intro p1 p1e p1k
  replace p1k : p1 = some (b + 2) := p1k; clear p1e; subst p1k
  refine z_iload_n (pc2 := 5) rfl rfl rfl ?_
  refine z_iald (pc2 := 6) rfl rfl tb.2.2.1 (by omega) (by omega) (by omega) ?_
  intro v2 e2 r2 k2
  clear k2
  clear e2
  refine z_aload_n (pc2 := 7) rfl rfl rfl ?_
  refine z_getP (pc2 := 10) rfl rfl rfl rfl tb.1 ?_
  intro p3 p3e p3k
  obtain ⟨x4, rfl, hx4⟩ := zFloorOf p3k
  have ix4 : x4 = 23 ∨ x4 = 30 ∨ x4 = 42 ∨ x4 = 49 := by omega
  have tx4 := zFl_t hC ix4
  refine z_iload_n (pc2 := 11) rfl rfl rfl ?_
  refine z_callV (y2 := 26) (as := [_]) (rest := [_]) (pc2 := 14) rfl rfl rfl rfl tx4.1 rfl ?_
  refine c_Floor_sortsIn hn hC (by omega) (by omega) (fun w5 => ?_)
  show zB _ _ _ _ _ _ [_, _] _ _
  refine z_isub (pc2 := 15) rfl rfl ?_
  refine z_iret rfl rfl ?_
  exact hK _
set_option maxHeartbeats 8000000 in
theorem cl_Room_sortsOut {L : Nat} {xs : Nat → Int32} {n sl : Nat} {T : Nat → zT} {I : Nat → Nat → Int} {P : Nat → Nat → Option Nat} {G : Nat → Nat → Int} {K : List zV → zH → Prop} {b : Nat} (hn : 90 ≤ n) (hC : ∀ a, 1 ≤ a → a ≤ 55 → T a = zFixC a) (hb : b = 18 ∨ b = 37) (hK : ∀ e, K [.inl e] (n, sl, T, I, P, G)) (m : Nat) : ∀ (s k : Int), 0 ≤ k ∧ k ≤ 4 → (4 - k).toNat < m → zB zMd L xs 82 4 [(0, .inr (.inl (some b))), (1, .inl s), (2, .inl k)] [] (n, sl, T, I, P, G) K := by
  have tb := zRm_t hC hb
  induction m with
  | zero => intro s k hk hm; omega
  | succ m ih =>
    intro s k hk hm
    refine z_iload_n (pc2 := 5) rfl rfl rfl ?_
    refine z_iconst (pc2 := 6) rfl rfl ?_
    refine z_icmp_ge (t := 23) (pc2 := 9) rfl rfl rfl (by omega) (by omega) (fun c1 => ?_) (fun c1 => ?_)
    ·
      refine z_iload_n (pc2 := 24) rfl rfl rfl ?_
      refine z_iret rfl rfl ?_
      exact hK _
    ·
      refine z_iload_n (pc2 := 10) rfl rfl rfl ?_
      refine z_aload_n (pc2 := 11) rfl rfl rfl ?_
      refine z_iload_n (pc2 := 12) rfl rfl rfl ?_
      refine z_callV (y2 := 81) (as := [_]) (rest := [_]) (pc2 := 15) rfl rfl rfl rfl tb.1 rfl ?_
      refine c_Room_sortsOutOf hn hC (by omega) (by omega) (fun w2 => ?_)
      show zB _ _ _ _ _ _ [_, _] _ _
      refine z_iadd (pc2 := 16) rfl rfl ?_
      refine z_istore_n (lv2 := [(1, _), (0, _), (2, _)]) (pc2 := 17) rfl rfl rfl rfl ?_
      refine z_iinc (lv2 := [(2, _), (1, _), (0, _)]) (pc2 := 20) rfl rfl rfl rfl rfl ?_
      refine z_goto (pc2 := 4) rfl rfl ?_
      refine z_lv (lv2 := [(0, _), (1, _), (2, _)]) ⟨rfl, rfl, rfl, trivial⟩ ?_
      exact ih _ _ (by omega) (by omega)
set_option maxHeartbeats 8000000 in
theorem c_Room_sortsOut {L : Nat} {xs : Nat → Int32} {n sl : Nat} {T : Nat → zT} {I : Nat → Nat → Int} {P : Nat → Nat → Option Nat} {G : Nat → Nat → Int} {K : List zV → zH → Prop} {b : Nat} (hn : 90 ≤ n) (hC : ∀ a, 1 ≤ a → a ≤ 55 → T a = zFixC a) (hb : b = 18 ∨ b = 37) (hK : ∀ e, K [.inl e] (n, sl, T, I, P, G)) : zX zMd L xs 82 [.inr (.inl (some b))] (n, sl, T, I, P, G) K := by
  have tb := zRm_t hC hb
  refine z_inl ?_
  refine z_lv (lv2 := [(0, _)]) ⟨rfl, trivial⟩ ?_
  refine z_iconst (pc2 := 1) rfl rfl ?_
  refine z_istore_n (lv2 := [(1, _), (0, _)]) (pc2 := 2) rfl rfl rfl rfl ?_
  refine z_iconst (pc2 := 3) rfl rfl ?_
  refine z_istore_n (lv2 := [(2, _), (1, _), (0, _)]) (pc2 := 4) rfl rfl rfl rfl ?_
  refine z_lv (lv2 := [(0, _), (1, _), (2, _)]) ⟨rfl, rfl, rfl, trivial⟩ ?_
  exact cl_Room_sortsOut hn hC hb hK _  _ _ (by omega)    (Nat.lt_succ_self _)
set_option maxHeartbeats 8000000 in
theorem cl_Room_bought {L : Nat} {xs : Nat → Int32} {n sl : Nat} {T : Nat → zT} {I : Nat → Nat → Int} {P : Nat → Nat → Option Nat} {G : Nat → Nat → Int} {K : List zV → zH → Prop} {b : Nat} (hn : 90 ≤ n) (hC : ∀ a, 1 ≤ a → a ≤ 55 → T a = zFixC a) (hb : b = 18 ∨ b = 37) (hK : ∀ e, K [.inl e] (n, sl, T, I, P, G)) (m : Nat) : ∀ (s k : Int), 0 ≤ k ∧ k ≤ 4 → (4 - k).toNat < m → zB zMd L xs 80 4 [(0, .inr (.inl (some b))), (1, .inl s), (2, .inl k)] [] (n, sl, T, I, P, G) K := by
  have tb := zRm_t hC hb
  induction m with
  | zero => intro s k hk hm; omega
  | succ m ih =>
    intro s k hk hm
    refine z_iload_n (pc2 := 5) rfl rfl rfl ?_
    refine z_iconst (pc2 := 6) rfl rfl ?_
    refine z_icmp_ge (t := 24) (pc2 := 9) rfl rfl rfl (by omega) (by omega) (fun c1 => ?_) (fun c1 => ?_)
    ·
      refine z_iload_n (pc2 := 25) rfl rfl rfl ?_
      refine z_iret rfl rfl ?_
      exact hK _
    ·
      refine z_iload_n (pc2 := 10) rfl rfl rfl ?_
      refine z_aload_n (pc2 := 11) rfl rfl rfl ?_
      refine z_getP (pc2 := 14) rfl rfl rfl rfl tb.1 ?_
      intro p2 p2e p2k
      replace p2k : p2 = some (b + 2) := p2k; clear p2e; subst p2k
      refine z_iload_n (pc2 := 15) rfl rfl rfl ?_
      refine z_iald (pc2 := 16) rfl rfl tb.2.2.1 (by omega) (by omega) (by omega) ?_
      intro v3 e3 r3 k3
      clear k3
      clear e3
      refine z_iadd (pc2 := 17) rfl rfl ?_
      refine z_istore_n (lv2 := [(1, _), (0, _), (2, _)]) (pc2 := 18) rfl rfl rfl rfl ?_
      refine z_iinc (lv2 := [(2, _), (1, _), (0, _)]) (pc2 := 21) rfl rfl rfl rfl rfl ?_
      refine z_goto (pc2 := 4) rfl rfl ?_
      refine z_lv (lv2 := [(0, _), (1, _), (2, _)]) ⟨rfl, rfl, rfl, trivial⟩ ?_
      exact ih _ _ (by omega) (by omega)
set_option maxHeartbeats 8000000 in
theorem c_Room_bought {L : Nat} {xs : Nat → Int32} {n sl : Nat} {T : Nat → zT} {I : Nat → Nat → Int} {P : Nat → Nat → Option Nat} {G : Nat → Nat → Int} {K : List zV → zH → Prop} {b : Nat} (hn : 90 ≤ n) (hC : ∀ a, 1 ≤ a → a ≤ 55 → T a = zFixC a) (hb : b = 18 ∨ b = 37) (hK : ∀ e, K [.inl e] (n, sl, T, I, P, G)) : zX zMd L xs 80 [.inr (.inl (some b))] (n, sl, T, I, P, G) K := by
  have tb := zRm_t hC hb
  refine z_inl ?_
  refine z_lv (lv2 := [(0, _)]) ⟨rfl, trivial⟩ ?_
  refine z_iconst (pc2 := 1) rfl rfl ?_
  refine z_istore_n (lv2 := [(1, _), (0, _)]) (pc2 := 2) rfl rfl rfl rfl ?_
  refine z_iconst (pc2 := 3) rfl rfl ?_
  refine z_istore_n (lv2 := [(2, _), (1, _), (0, _)]) (pc2 := 4) rfl rfl rfl rfl ?_
  refine z_lv (lv2 := [(0, _), (1, _), (2, _)]) ⟨rfl, rfl, rfl, trivial⟩ ?_
  exact cl_Room_bought hn hC hb hK _  _ _ (by omega)    (Nat.lt_succ_self _)
set_option maxHeartbeats 8000000 in
theorem c_TypeRoom_whyNotChange {L : Nat} {xs : Nat → Int32} {n sl : Nat} {T : Nat → zT} {I : Nat → Nat → Int} {P : Nat → Nat → Option Nat} {G : Nat → Nat → Int} {K : List zV → zH → Prop} {f z : Int} (hn : 90 ≤ n) (hC : ∀ a, 1 ≤ a → a ≤ 55 → T a = zFixC a) (hf : zR f) (hz : 0 ≤ z ∧ z ≤ 1) (hK : ∀ e, (-3 ≤ e ∧ e ≤ 0) → (e = 0 → z = 0 ∧ 0 ≤ f ∧ f ≤ 3) → K [.inl e] (n, sl, T, I, P, G)) : zX zMd L xs 146 [.inr (.inl (some 1)), .inl f, .inl z] (n, sl, T, I, P, G) K := by
  have t1 : T 1 = (1, 11, [1]) := hC 1 (by decide) (by decide)
  refine z_inl ?_
  refine z_lv (lv2 := [(0, _), (1, _), (2, _)]) ⟨rfl, rfl, rfl, trivial⟩ ?_
  refine z_iload_n (pc2 := 1) rfl rfl rfl ?_
  refine z_if_ne (t := 11) (pc2 := 4) rfl rfl rfl (by omega) (fun c1 => ?_) (fun c1 => ?_)
  ·
    refine z_iconst (pc2 := 12) rfl rfl ?_
    refine z_iret rfl rfl ?_
    exact hK _ (by omega) (by omega)
  ·
    refine z_iload_n (pc2 := 5) rfl rfl rfl ?_
    refine z_callS (y2 := 151) (as := [_]) (rest := []) (pc2 := 8) rfl rfl rfl rfl ?_
    refine z_inl ?_
    refine z_lv (lv2 := [(0, _)]) ⟨rfl, trivial⟩ ?_
    refine z_iload_n (pc2 := 1) rfl rfl rfl ?_
    refine z_iconst (pc2 := 2) rfl rfl ?_
    refine z_iconst (pc2 := 3) rfl rfl ?_
    refine z_callS (y2 := 155) (as := [_, _, _]) (rest := []) (pc2 := 6) rfl rfl rfl rfl ?_
    refine c_TypeRoom_isOutside (by omega) (by omega) (by omega) (fun e2 e2a e2b e2c => ?_)
    show zB _ _ _ _ _ _ [_] _ _
    refine z_zret rfl rfl (by omega) ?_
    show zB _ _ _ _ _ _ [_] _ _
    refine z_if_eq (t := 13) (pc2 := 11) rfl rfl rfl (by omega) (fun c3 => ?_) (fun c3 => ?_)
    ·
      refine z_aload_n (pc2 := 14) rfl rfl rfl ?_
      refine z_getP (pc2 := 17) rfl rfl rfl rfl t1 ?_
      intro p4 p4e p4k
      obtain ⟨b5, rfl, hb5⟩ := zHere p4k
      have tb5 := zRm_t hC hb5
      refine z_iload_n (pc2 := 18) rfl rfl rfl ?_
      refine z_callV (y2 := 81) (as := [_]) (rest := []) (pc2 := 21) rfl rfl rfl rfl tb5.1 rfl ?_
      refine c_Room_sortsOutOf hn hC (by omega) (by omega) (fun w6 => ?_)
      show zB _ _ _ _ _ _ [_] _ _
      refine z_if_any (t := 27) (pc2 := 24) rfl rfl rfl ?_ ?_
      ·
        refine z_aload_n (pc2 := 28) rfl rfl rfl ?_
        refine z_callV (y2 := 148) (as := []) (rest := []) (pc2 := 31) rfl rfl rfl rfl t1 rfl ?_
        refine z_inl ?_
        refine z_lv (lv2 := [(0, _)]) ⟨rfl, trivial⟩ ?_
        refine z_aload_n (pc2 := 1) rfl rfl rfl ?_
        refine z_getI (pc2 := 4) 0 rfl rfl rfl rfl rfl t1 ?_
        intro v7 e7 r7 k7
        clear k7
        clear e7
        refine z_sipush (pc2 := 7) rfl rfl (by decide) ?_
        refine z_icmp_lt (t := 14) (pc2 := 10) rfl rfl rfl (by omega) (by omega) (fun c8 => ?_) (fun c8 => ?_)
        ·
          refine z_iconst (pc2 := 15) rfl rfl ?_
          refine z_zret rfl rfl (by omega) ?_
          show zB _ _ _ _ _ _ [_] _ _
          refine z_if_eq (t := 39) (pc2 := 34) rfl rfl rfl (by omega) (fun c9 => ?_) (fun c9 => by exfalso; omega)
          refine z_iconst (pc2 := 40) rfl rfl ?_
          refine z_iret rfl rfl ?_
          exact hK _ (by omega) (by omega)
        ·
          refine z_iconst (pc2 := 11) rfl rfl ?_
          refine z_goto (pc2 := 15) rfl rfl ?_
          refine z_zret rfl rfl (by omega) ?_
          show zB _ _ _ _ _ _ [_] _ _
          refine z_if_eq (t := 39) (pc2 := 34) rfl rfl rfl (by omega) (fun c10 => by exfalso; omega) (fun c10 => ?_)
          refine z_bipush (pc2 := 36) rfl rfl (by decide) ?_
          refine z_goto (pc2 := 40) rfl rfl ?_
          refine z_iret rfl rfl ?_
          exact hK _ (by omega) (by omega)
      ·
        refine z_bipush (pc2 := 26) rfl rfl (by decide) ?_
        refine z_iret rfl rfl ?_
        exact hK _ (by omega) (by omega)
    ·
      refine z_iconst (pc2 := 12) rfl rfl ?_
      refine z_iret rfl rfl ?_
      exact hK _ (by omega) (by omega)
set_option maxHeartbeats 8000000 in
theorem c_Fount_boxOf {L : Nat} {xs : Nat → Int32} {n sl : Nat} {T : Nat → zT} {I : Nat → Nat → Int} {P : Nat → Nat → Option Nat} {G : Nat → Nat → Int} {K : List zV → zH → Prop} {k c m : Int} {q : Nat} (hn : 90 ≤ n) (hC : ∀ a, 1 ≤ a → a ≤ 55 → T a = zFixC a) (hk : zR k) (hc : zR c) (hm : 0 ≤ m ∧ m ≤ 24) (tq : T q = (1, 3, [m])) (ql : q ≤ n) (hK : ∀ e, (-22 ≤ e ∧ e ≤ 143) → (0 ≤ e → (0 ≤ k ∧ k ≤ 4) ∧ (k = 0 → 0 ≤ c ∧ c < m) ∧ (k = 1 → 0 ≤ c ∧ c ≤ 5) ∧ (k = 4 → 0 ≤ c ∧ c ≤ 3)) → K [.inl e] (n, sl, T, I, P, G)) : zX zMd L xs 44 [.inr (.inl (some q)), .inl k, .inl c] (n, sl, T, I, P, G) K := by
  refine z_inl ?_
  refine z_lv (lv2 := [(0, _), (1, _), (2, _)]) ⟨rfl, rfl, rfl, trivial⟩ ?_
  refine z_aload_n (pc2 := 1) rfl rfl rfl ?_
  refine z_getI (pc2 := 4) 0 rfl rfl rfl rfl rfl tq ?_
  intro v1 e1 r1 k1
  replace k1 : (0 : Int) ≤ v1 ∧ v1 ≤ 3 := k1
  clear e1
  refine z_bipush (pc2 := 6) rfl rfl (by decide) ?_
  refine z_imul (pc2 := 7) rfl rfl ?_
  refine z_istore_n (lv2 := [(3, _), (0, _), (1, _), (2, _)]) (pc2 := 8) rfl rfl rfl rfl ?_
  refine z_iload_n (pc2 := 9) rfl rfl rfl ?_
  refine z_tsw (td := 118) rfl rfl (by omega) (fun c2 => ?_) (fun j c2j c2h => ?_)
  ·
    refine z_bipush (pc2 := 120) rfl rfl (by decide) ?_
    refine z_iret rfl rfl ?_
    exact hK _ (by omega) (by omega)
  ·
    have c2t : j = 0 ∨ j = 1 ∨ j = 2 ∨ j = 3 ∨ j = 4 := by omega
    rcases c2t with rfl | rfl | rfl | rfl | rfl
    ·
      refine ⟨_, 44, rfl, rfl, ?_⟩
      refine z_aload_n (pc2 := 45) rfl rfl rfl ?_
      refine z_iload_n (pc2 := 46) rfl rfl rfl ?_
      refine z_callV (y2 := 37) (as := [_]) (rest := []) (pc2 := 49) rfl rfl rfl rfl tq rfl ?_
      refine z_inl ?_
      refine z_lv (lv2 := [(0, _), (1, _)]) ⟨rfl, rfl, trivial⟩ ?_
      refine z_iload_n (pc2 := 1) rfl rfl rfl ?_
      refine z_if_lt (t := 16) (pc2 := 4) rfl rfl rfl (by omega) (fun c3 => ?_) (fun c3 => ?_)
      ·
        refine z_iconst (pc2 := 17) rfl rfl ?_
        refine z_zret rfl rfl (by omega) ?_
        show zB _ _ _ _ _ _ [_] _ _
        refine z_if_eq (t := 58) (pc2 := 52) rfl rfl rfl (by omega) (fun c4 => ?_) (fun c4 => by exfalso; omega)
        refine z_bipush (pc2 := 60) rfl rfl (by decide) ?_
        refine z_iret rfl rfl ?_
        exact hK _ (by omega) (by omega)
      ·
        refine z_iload_n (pc2 := 5) rfl rfl rfl ?_
        refine z_aload_n (pc2 := 6) rfl rfl rfl ?_
        refine z_getI (pc2 := 9) 0 rfl rfl rfl rfl rfl tq ?_
        intro v5 e5 r5 k5
        replace k5 : m = v5 := Eq.symm k5
        subst k5
        refine z_icmp_ge (t := 16) (pc2 := 12) rfl rfl rfl (by omega) (by omega) (fun c6 => ?_) (fun c6 => ?_)
        ·
          refine z_iconst (pc2 := 17) rfl rfl ?_
          refine z_zret rfl rfl (by omega) ?_
          show zB _ _ _ _ _ _ [_] _ _
          refine z_if_eq (t := 58) (pc2 := 52) rfl rfl rfl (by omega) (fun c7 => ?_) (fun c7 => by exfalso; omega)
          refine z_bipush (pc2 := 60) rfl rfl (by decide) ?_
          refine z_iret rfl rfl ?_
          exact hK _ (by omega) (by omega)
        ·
          refine z_iconst (pc2 := 13) rfl rfl ?_
          refine z_goto (pc2 := 17) rfl rfl ?_
          refine z_zret rfl rfl (by omega) ?_
          show zB _ _ _ _ _ _ [_] _ _
          refine z_if_eq (t := 58) (pc2 := 52) rfl rfl rfl (by omega) (fun c8 => by exfalso; omega) (fun c8 => ?_)
          refine z_iload_n (pc2 := 53) rfl rfl rfl ?_
          refine z_iload_n (pc2 := 54) rfl rfl rfl ?_
          refine z_iadd (pc2 := 55) rfl rfl ?_
          refine z_goto (pc2 := 60) rfl rfl ?_
          refine z_iret rfl rfl ?_
          exact hK _ (by omega) (by omega)
    ·
      refine ⟨_, 61, rfl, rfl, ?_⟩
      refine z_iload_n (pc2 := 62) rfl rfl rfl ?_
      refine z_iconst (pc2 := 63) rfl rfl ?_
      refine z_aload_n (pc2 := 64) rfl rfl rfl ?_
      refine z_getI (pc2 := 67) 0 rfl rfl rfl rfl rfl tq ?_
      intro v9 e9 r9 k9
      replace k9 : (0 ≤ v9 ∧ v9 ≤ 6) ∧ (m = 0 → v9 = 0) := k9
      clear e9
      refine z_iconst (pc2 := 68) rfl rfl ?_
      refine z_isub (pc2 := 69) rfl rfl ?_
      refine z_callS (y2 := 155) (as := [_, _, _]) (rest := []) (pc2 := 72) rfl rfl rfl rfl ?_
      refine c_TypeRoom_isOutside (by omega) (by omega) (by omega) (fun e10 e10a e10b e10c => ?_)
      show zB _ _ _ _ _ _ [_] _ _
      refine z_if_eq (t := 80) (pc2 := 75) rfl rfl rfl (by omega) (fun c11 => ?_) (fun c11 => ?_)
      ·
        refine z_iload_n (pc2 := 81) rfl rfl rfl ?_
        refine z_bipush (pc2 := 83) rfl rfl (by decide) ?_
        refine z_iadd (pc2 := 84) rfl rfl ?_
        refine z_iload_n (pc2 := 85) rfl rfl rfl ?_
        refine z_iadd (pc2 := 86) rfl rfl ?_
        refine z_iret rfl rfl ?_
        exact hK _ (by omega) (by omega)
      ·
        refine z_bipush (pc2 := 77) rfl rfl (by decide) ?_
        refine z_goto (pc2 := 86) rfl rfl ?_
        refine z_iret rfl rfl ?_
        exact hK _ (by omega) (by omega)
    ·
      refine ⟨_, 87, rfl, rfl, ?_⟩
      refine z_iload_n (pc2 := 88) rfl rfl rfl ?_
      refine z_bipush (pc2 := 90) rfl rfl (by decide) ?_
      refine z_iadd (pc2 := 91) rfl rfl ?_
      refine z_iret rfl rfl ?_
      exact hK _ (by omega) (by omega)
    ·
      refine ⟨_, 92, rfl, rfl, ?_⟩
      refine z_iload_n (pc2 := 93) rfl rfl rfl ?_
      refine z_bipush (pc2 := 95) rfl rfl (by decide) ?_
      refine z_iadd (pc2 := 96) rfl rfl ?_
      refine z_iret rfl rfl ?_
      exact hK _ (by omega) (by omega)
    ·
      refine ⟨_, 97, rfl, rfl, ?_⟩
      refine z_iload_n (pc2 := 98) rfl rfl rfl ?_
      refine z_iconst (pc2 := 99) rfl rfl ?_
      refine z_iconst (pc2 := 100) rfl rfl ?_
      refine z_callS (y2 := 155) (as := [_, _, _]) (rest := []) (pc2 := 103) rfl rfl rfl rfl ?_
      refine c_TypeRoom_isOutside (by omega) (by omega) (by omega) (fun e12 e12a e12b e12c => ?_)
      show zB _ _ _ _ _ _ [_] _ _
      refine z_if_eq (t := 111) (pc2 := 106) rfl rfl rfl (by omega) (fun c13 => ?_) (fun c13 => ?_)
      ·
        refine z_iload_n (pc2 := 112) rfl rfl rfl ?_
        refine z_bipush (pc2 := 114) rfl rfl (by decide) ?_
        refine z_iadd (pc2 := 115) rfl rfl ?_
        refine z_iload_n (pc2 := 116) rfl rfl rfl ?_
        refine z_iadd (pc2 := 117) rfl rfl ?_
        refine z_iret rfl rfl ?_
        exact hK _ (by omega) (by omega)
      ·
        refine z_bipush (pc2 := 108) rfl rfl (by decide) ?_
        refine z_goto (pc2 := 117) rfl rfl ?_
        refine z_iret rfl rfl ?_
        exact hK _ (by omega) (by omega)
set_option maxHeartbeats 8000000 in
theorem cl_Arrays_fill {L : Nat} {xs : Nat → Int32} {n sl : Nat} {T : Nat → zT} {I : Nat → Nat → Int} {P : Nat → Nat → Option Nat} {K : List zV → zH → Prop} {v u : Int} {q : Nat} (hn : 90 ≤ n) (hC : ∀ a, 1 ≤ a → a ≤ 55 → T a = zFixC a) (hv : zR v) (hu : 0 ≤ u ∧ u ≤ 1000) {gs : List Int} (tq : T q = (2, 0, u :: gs)) (hz : ∀ k, zok (2, 0, u :: gs) k v) (hK : ∀ I2 G2, (∀ a k, a ≠ q → I2 a k = I a k) → K [] (n, sl, T, I2, P, G2)) (m : Nat) : ∀ (I2 : Nat → Nat → Int) (G2 : Nat → Nat → Int), ∀ (k : Int), 0 ≤ k ∧ k ≤ 1000 → (∀ a k, a ≠ q → I2 a k = I a k) → k ≤ u → (u - k).toNat < m → zB zMd L xs 269 5 [(0, .inr (.inl (some q))), (1, .inl v), (2, .inl k), (3, .inl u)] [] (n, sl, T, I2, P, G2) K := by
  induction m with
  | zero => intro I2 G2 k hk hI2 hb3 hm; omega
  | succ m ih =>
    intro I2 G2 k hk hI2 hb3 hm
    refine z_iload_n (pc2 := 6) rfl rfl rfl ?_
    refine z_iload_n (pc2 := 7) rfl rfl rfl ?_
    refine z_icmp_ge (t := 20) (pc2 := 10) rfl rfl rfl (by omega) (by omega) (fun c1 => ?_) (fun c1 => ?_)
    ·
      refine z_ret rfl rfl ?_
      exact hK _ _ hI2
    ·
      refine z_aload_n (pc2 := 11) rfl rfl rfl ?_
      refine z_iload_n (pc2 := 12) rfl rfl rfl ?_
      refine z_iload_n (pc2 := 13) rfl rfl rfl ?_
      refine z_iast (pc2 := 14) rfl rfl tq (by omega) (by omega) (by omega) (by omega) (hz _) ?_
      refine z_iinc (lv2 := [(2, _), (0, _), (1, _), (3, _)]) (pc2 := 17) rfl rfl rfl rfl rfl ?_
      refine z_goto (pc2 := 5) rfl rfl ?_
      refine z_lv (lv2 := [(0, _), (1, _), (2, _), (3, _)]) ⟨rfl, rfl, rfl, rfl, trivial⟩ ?_
      exact ih _ _ _ (by omega) (fun a k h => by rw [zU_row _ _ _ h]; exact hI2 a k h) (by omega) (by omega)
set_option maxHeartbeats 8000000 in
theorem c_Arrays_fill {L : Nat} {xs : Nat → Int32} {n sl : Nat} {T : Nat → zT} {I : Nat → Nat → Int} {P : Nat → Nat → Option Nat} {G : Nat → Nat → Int} {K : List zV → zH → Prop} {v u : Int} {q : Nat} (hn : 90 ≤ n) (hC : ∀ a, 1 ≤ a → a ≤ 55 → T a = zFixC a) (hv : zR v) (hu : 0 ≤ u ∧ u ≤ 1000) {gs : List Int} (tq : T q = (2, 0, u :: gs)) (hz : ∀ k, zok (2, 0, u :: gs) k v) (hK : ∀ I2 G2, (∀ a k, a ≠ q → I2 a k = I a k) → K [] (n, sl, T, I2, P, G2)) : zX zMd L xs 269 [.inr (.inl (some q)), .inl v] (n, sl, T, I, P, G) K := by
  refine z_inl ?_
  refine z_lv (lv2 := [(0, _), (1, _)]) ⟨rfl, rfl, trivial⟩ ?_
  refine z_iconst (pc2 := 1) rfl rfl ?_
  refine z_istore_n (lv2 := [(2, _), (0, _), (1, _)]) (pc2 := 2) rfl rfl rfl rfl ?_
  refine z_aload_n (pc2 := 3) rfl rfl rfl ?_
  refine z_alen (pc2 := 4) rfl rfl tq rfl (by omega) ?_
  refine z_istore_n (lv2 := [(3, _), (2, _), (0, _), (1, _)]) (pc2 := 5) rfl rfl rfl rfl ?_
  refine z_lv (lv2 := [(0, _), (1, _), (2, _), (3, _)]) ⟨rfl, rfl, rfl, rfl, trivial⟩ ?_
  exact cl_Arrays_fill hn hC (by omega) (by omega) tq hz hK _ _ _ _ (by omega)  (fun _ _ _ => rfl) (by omega) (Nat.lt_succ_self _)
