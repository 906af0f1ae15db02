/-! the class: reading -/
set_option maxHeartbeats 8000000 in
theorem c_Reading_kindOf {L : Nat} {xs : Nat → Int32} {n sl : Nat} {T : Nat → zT} {I : Nat → Nat → Int} {P : Nat → Nat → Option Nat} {G : Nat → Nat → Int} {K : List zV → zH → Prop} {v : Int} (hv : zR v) (hK : ∀ e, (e = 0 ∨ e = 2 ∨ e = 3 ∨ e = 4 ∨ e = 6 ∨ e = 7) → (e = 7 → 64 ≤ v ∧ v ≤ 75) → (e = 4 → 96 ≤ v ∧ v ≤ 99) → K [.inl e] (n, sl, T, I, P, G)) : zX zMd L xs 71 [.inl v] (n, sl, T, I, P, G) K := by
  refine z_inl ?_
  refine z_lv (lv2 := [(0, _)]) ⟨rfl, trivial⟩ ?_
  refine z_iload_n (pc2 := 1) rfl rfl rfl ?_
  refine z_bipush (pc2 := 3) rfl rfl (by decide) ?_
  refine z_icmp_lt (t := 15) (pc2 := 6) rfl rfl rfl (by omega) (by omega) (fun c1 => ?_) (fun c1 => ?_)
  ·
    refine z_iload_n (pc2 := 16) rfl rfl rfl ?_
    refine z_bipush (pc2 := 18) rfl rfl (by decide) ?_
    refine z_icmp_lt (t := 29) (pc2 := 21) rfl rfl rfl (by omega) (by omega) (fun c2 => ?_) (fun c2 => by exfalso; omega)
    refine z_iload_n (pc2 := 30) rfl rfl rfl ?_
    by_cases c30 : (v) = 32
    ·
      refine z_lsw (t := 64) rfl (by omega) rfl ((congrArg (mTo 30) (show Op.lookupswitch.offset #[(32, 34), (45, 36), (61, 39)].toList (41) (v) = 34 from (by simp only [Op.lookupswitch.offset]; (repeat' split) <;> first | rfl | (exfalso; omega)))).trans rfl) ?_
      refine z_iconst (pc2 := 65) rfl rfl ?_
      refine z_iret rfl rfl ?_
      exact hK _ (by omega) (by omega) (by omega)
    ·
      by_cases c31 : (v) = 45
      ·
        refine z_lsw (t := 66) rfl (by omega) rfl ((congrArg (mTo 30) (show Op.lookupswitch.offset #[(32, 34), (45, 36), (61, 39)].toList (41) (v) = 36 from (by simp only [Op.lookupswitch.offset]; (repeat' split) <;> first | rfl | (exfalso; omega)))).trans rfl) ?_
        refine z_bipush (pc2 := 68) rfl rfl (by decide) ?_
        refine z_iret rfl rfl ?_
        exact hK _ (by omega) (by omega) (by omega)
      ·
        by_cases c32 : (v) = 61
        ·
          refine z_lsw (t := 69) rfl (by omega) rfl ((congrArg (mTo 30) (show Op.lookupswitch.offset #[(32, 34), (45, 36), (61, 39)].toList (41) (v) = 39 from (by simp only [Op.lookupswitch.offset]; (repeat' split) <;> first | rfl | (exfalso; omega)))).trans rfl) ?_
          refine z_iconst (pc2 := 70) rfl rfl ?_
          refine z_iret rfl rfl ?_
          exact hK _ (by omega) (by omega) (by omega)
        ·
          refine z_lsw (t := 71) rfl (by omega) rfl ((congrArg (mTo 30) (show Op.lookupswitch.offset #[(32, 34), (45, 36), (61, 39)].toList (41) (v) = 41 from (by simp only [Op.lookupswitch.offset]; (repeat' split) <;> first | rfl | (exfalso; omega)))).trans rfl) ?_
          refine z_iconst (pc2 := 72) rfl rfl ?_
          refine z_iret rfl rfl ?_
          exact hK _ (by omega) (by omega) (by omega)
  ·
    refine z_iload_n (pc2 := 7) rfl rfl rfl ?_
    refine z_bipush (pc2 := 9) rfl rfl (by decide) ?_
    refine z_icmp_ge (t := 15) (pc2 := 12) rfl rfl rfl (by omega) (by omega) (fun c4 => ?_) (fun c4 => ?_)
    ·
      refine z_iload_n (pc2 := 16) rfl rfl rfl ?_
      refine z_bipush (pc2 := 18) rfl rfl (by decide) ?_
      refine z_icmp_lt (t := 29) (pc2 := 21) rfl rfl rfl (by omega) (by omega) (fun c5 => ?_) (fun c5 => ?_)
      ·
        refine z_iload_n (pc2 := 30) rfl rfl rfl ?_
        by_cases c60 : (v) = 32
        ·
          refine z_lsw (t := 64) rfl (by omega) rfl ((congrArg (mTo 30) (show Op.lookupswitch.offset #[(32, 34), (45, 36), (61, 39)].toList (41) (v) = 34 from (by simp only [Op.lookupswitch.offset]; (repeat' split) <;> first | rfl | (exfalso; omega)))).trans rfl) ?_
          exfalso; omega
        ·
          by_cases c61 : (v) = 45
          ·
            refine z_lsw (t := 66) rfl (by omega) rfl ((congrArg (mTo 30) (show Op.lookupswitch.offset #[(32, 34), (45, 36), (61, 39)].toList (41) (v) = 36 from (by simp only [Op.lookupswitch.offset]; (repeat' split) <;> first | rfl | (exfalso; omega)))).trans rfl) ?_
            exfalso; omega
          ·
            by_cases c62 : (v) = 61
            ·
              refine z_lsw (t := 69) rfl (by omega) rfl ((congrArg (mTo 30) (show Op.lookupswitch.offset #[(32, 34), (45, 36), (61, 39)].toList (41) (v) = 39 from (by simp only [Op.lookupswitch.offset]; (repeat' split) <;> first | rfl | (exfalso; omega)))).trans rfl) ?_
              exfalso; omega
            ·
              refine z_lsw (t := 71) rfl (by omega) rfl ((congrArg (mTo 30) (show Op.lookupswitch.offset #[(32, 34), (45, 36), (61, 39)].toList (41) (v) = 41 from (by simp only [Op.lookupswitch.offset]; (repeat' split) <;> first | rfl | (exfalso; omega)))).trans rfl) ?_
              refine z_iconst (pc2 := 72) rfl rfl ?_
              refine z_iret rfl rfl ?_
              exact hK _ (by omega) (by omega) (by omega)
      ·
        refine z_iload_n (pc2 := 22) rfl rfl rfl ?_
        refine z_bipush (pc2 := 24) rfl rfl (by decide) ?_
        refine z_icmp_ge (t := 29) (pc2 := 27) rfl rfl rfl (by omega) (by omega) (fun c7 => ?_) (fun c7 => ?_)
        ·
          refine z_iload_n (pc2 := 30) rfl rfl rfl ?_
          by_cases c80 : (v) = 32
          ·
            refine z_lsw (t := 64) rfl (by omega) rfl ((congrArg (mTo 30) (show Op.lookupswitch.offset #[(32, 34), (45, 36), (61, 39)].toList (41) (v) = 34 from (by simp only [Op.lookupswitch.offset]; (repeat' split) <;> first | rfl | (exfalso; omega)))).trans rfl) ?_
            exfalso; omega
          ·
            by_cases c81 : (v) = 45
            ·
              refine z_lsw (t := 66) rfl (by omega) rfl ((congrArg (mTo 30) (show Op.lookupswitch.offset #[(32, 34), (45, 36), (61, 39)].toList (41) (v) = 36 from (by simp only [Op.lookupswitch.offset]; (repeat' split) <;> first | rfl | (exfalso; omega)))).trans rfl) ?_
              exfalso; omega
            ·
              by_cases c82 : (v) = 61
              ·
                refine z_lsw (t := 69) rfl (by omega) rfl ((congrArg (mTo 30) (show Op.lookupswitch.offset #[(32, 34), (45, 36), (61, 39)].toList (41) (v) = 39 from (by simp only [Op.lookupswitch.offset]; (repeat' split) <;> first | rfl | (exfalso; omega)))).trans rfl) ?_
                exfalso; omega
              ·
                refine z_lsw (t := 71) rfl (by omega) rfl ((congrArg (mTo 30) (show Op.lookupswitch.offset #[(32, 34), (45, 36), (61, 39)].toList (41) (v) = 41 from (by simp only [Op.lookupswitch.offset]; (repeat' split) <;> first | rfl | (exfalso; omega)))).trans rfl) ?_
                refine z_iconst (pc2 := 72) rfl rfl ?_
                refine z_iret rfl rfl ?_
                exact hK _ (by omega) (by omega) (by omega)
        ·
          refine z_iconst (pc2 := 28) rfl rfl ?_
          refine z_iret rfl rfl ?_
          exact hK _ (by omega) (by omega) (by omega)
    ·
      refine z_bipush (pc2 := 14) rfl rfl (by decide) ?_
      refine z_iret rfl rfl ?_
      exact hK _ (by omega) (by omega) (by omega)
set_option maxHeartbeats 8000000 in
theorem c_Reading_codeOf {L : Nat} {xs : Nat → Int32} {n sl : Nat} {T : Nat → zT} {I : Nat → Nat → Int} {P : Nat → Nat → Option Nat} {G : Nat → Nat → Int} {K : List zV → zH → Prop} {k v : Int} (hk : zR k) (hv : 0 ≤ v ∧ v ≤ 127) (hK : ∀ e, (k = 7 → e = v - 64) → (k = 4 → e = v - 96) → (k ≠ 4 → k ≠ 7 → e = 0) → K [.inl e] (n, sl, T, I, P, G)) : zX zMd L xs 72 [.inl k, .inl v] (n, sl, T, I, P, G) K := by
  refine z_inl ?_
  refine z_lv (lv2 := [(0, _), (1, _)]) ⟨rfl, rfl, trivial⟩ ?_
  refine z_iload_n (pc2 := 1) rfl rfl rfl ?_
  by_cases c10 : (k) = 4
  ·
    refine z_lsw (t := 33) rfl (by omega) rfl ((congrArg (mTo 1) (show Op.lookupswitch.offset #[(4, 32), (7, 27)].toList (37) (k) = 32 from (by simp only [Op.lookupswitch.offset]; (repeat' split) <;> first | rfl | (exfalso; omega)))).trans rfl) ?_
    refine z_iload_n (pc2 := 34) rfl rfl rfl ?_
    refine z_bipush (pc2 := 36) rfl rfl (by decide) ?_
    refine z_isub (pc2 := 37) rfl rfl ?_
    refine z_iret rfl rfl ?_
    exact hK _ (by omega) (by omega) (by omega)
  ·
    by_cases c11 : (k) = 7
    ·
      refine z_lsw (t := 28) rfl (by omega) rfl ((congrArg (mTo 1) (show Op.lookupswitch.offset #[(4, 32), (7, 27)].toList (37) (k) = 27 from (by simp only [Op.lookupswitch.offset]; (repeat' split) <;> first | rfl | (exfalso; omega)))).trans rfl) ?_
      refine z_iload_n (pc2 := 29) rfl rfl rfl ?_
      refine z_bipush (pc2 := 31) rfl rfl (by decide) ?_
      refine z_isub (pc2 := 32) rfl rfl ?_
      refine z_iret rfl rfl ?_
      exact hK _ (by omega) (by omega) (by omega)
    ·
      refine z_lsw (t := 38) rfl (by omega) rfl ((congrArg (mTo 1) (show Op.lookupswitch.offset #[(4, 32), (7, 27)].toList (37) (k) = 37 from (by simp only [Op.lookupswitch.offset]; (repeat' split) <;> first | rfl | (exfalso; omega)))).trans rfl) ?_
      refine z_iconst (pc2 := 39) rfl rfl ?_
      refine z_iret rfl rfl ?_
      exact hK _ (by omega) (by omega) (by omega)
set_option maxHeartbeats 8000000 in
theorem c_Fount_joinLength {L : Nat} {xs : Nat → Int32} {n sl : Nat} {T : Nat → zT} {I : Nat → Nat → Int} {P : Nat → Nat → Option Nat} {G : Nat → Nat → Int} {K : List zV → zH → Prop} {j un : Int} {fo : Nat} (hn : 90 ≤ n) (hC : ∀ a, 1 ≤ a → a ≤ 55 → T a = zFixC a) (hj : 0 ≤ j ∧ j ≤ 5) (hun : 0 ≤ un ∧ un ≤ 24) (tfo : T fo = (1, 3, [un])) (fol : fo ≤ n) (fo9 : 91 ≤ fo) (hK : ∀ e, (2 ≤ e ∧ e ≤ 3) → K [.inl e] (n, sl, T, I, P, G)) : zX zMd L xs 39 [.inr (.inl (some fo)), .inl j] (n, sl, T, I, P, G) K := by
  refine z_inl ?_
  refine z_lv (lv2 := [(0, _), (1, _)]) ⟨rfl, rfl, trivial⟩ ?_
  refine z_aload_n (pc2 := 1) rfl rfl rfl ?_
  refine z_getP (pc2 := 4) rfl rfl rfl rfl tfo ?_
  intro p1 p1e p1k
  obtain ⟨q2, rfl, q29, tq2, -⟩ := p1k
  replace tq2 : _ = ((2, 0, [18, 26, un]) : zT) := tq2
  refine zB_le tq2 trivial (fun q2l => ?_)
  refine z_iload_n (pc2 := 5) rfl rfl rfl ?_
  refine z_iconst (pc2 := 6) rfl rfl ?_
  refine z_imul (pc2 := 7) rfl rfl ?_
  refine z_iconst (pc2 := 8) rfl rfl ?_
  refine z_iadd (pc2 := 9) rfl rfl ?_
  refine z_iald (pc2 := 10) rfl rfl tq2 (by omega) (by omega) (by omega) ?_
  intro v3 e3 r3 k3
  replace k3 := ok_26 k3
  clear e3
  refine z_if_ge (t := 17) (pc2 := 13) rfl rfl rfl (by omega) (fun c4 => ?_) (fun c4 => ?_)
  ·
    refine z_iconst (pc2 := 18) rfl rfl ?_
    refine z_iret rfl rfl ?_
    exact hK _ (by omega)
  ·
    refine z_iconst (pc2 := 14) rfl rfl ?_
    refine z_goto (pc2 := 18) rfl rfl ?_
    refine z_iret rfl rfl ?_
    exact hK _ (by omega)
set_option maxHeartbeats 8000000 in
theorem cl_Fount_isJoinAt {L : Nat} {xs : Nat → Int32} {n sl : Nat} {T : Nat → zT} {I : Nat → Nat → Int} {P : Nat → Nat → Option Nat} {G : Nat → Nat → Int} {K : List zV → zH → Prop} {j a w sm un : Int} {fo sg : Nat} (hn : 90 ≤ n) (hC : ∀ a, 1 ≤ a → a ≤ 55 → T a = zFixC a) (hj : 0 ≤ j ∧ j ≤ 5) (ha : 0 ≤ a ∧ a ≤ 39) (hw : 2 ≤ w ∧ w ≤ 3) (hsm : 0 ≤ sm ∧ sm ≤ 40) (hun : 0 ≤ un ∧ un ≤ 24) (haw : a + w ≤ sm) (tfo : T fo = (1, 3, [un])) (fol : fo ≤ n) (fo9 : 91 ≤ fo) (tsg : T sg = (2, 0, [sm, 25])) (sgl : sg ≤ n) (hK : ∀ e, (0 ≤ e ∧ e ≤ 1) → K [.inl e] (n, sl, T, I, P, G)) (m : Nat) : ∀ (k : Int), 0 ≤ k ∧ k ≤ 3 → (3 - k).toNat < m → zB zMd L xs 42 21 [(0, .inr (.inl (some fo))), (1, .inl j), (2, .inr (.inl (some sg))), (3, .inl a), (4, .inl w), (5, .inl k)] [] (n, sl, T, I, P, G) K := by
  induction m with
  | zero => intro k hk hm; omega
  | succ m ih =>
    intro k hk hm
    refine z_iload (pc2 := 23) rfl rfl rfl ?_
    refine z_iload (pc2 := 25) rfl rfl rfl ?_
    refine z_icmp_ge (t := 56) (pc2 := 28) rfl rfl rfl (by omega) (by omega) (fun c1 => ?_) (fun c1 => ?_)
    ·
      refine z_iconst (pc2 := 57) rfl rfl ?_
      refine z_zret rfl rfl (by omega) ?_
      exact hK _ (by omega)
    ·
      refine z_aload_n (pc2 := 29) rfl rfl rfl ?_
      refine z_iload_n (pc2 := 30) rfl rfl rfl ?_
      refine z_iload (pc2 := 32) rfl rfl rfl ?_
      refine z_iadd (pc2 := 33) rfl rfl ?_
      refine z_iald (pc2 := 34) rfl rfl tsg (by omega) (by omega) (by omega) ?_
      intro v2 e2 r2 k2
      replace k2 : (0 : Int) ≤ v2 ∧ v2 ≤ 127 := k2
      clear e2
      refine z_aload_n (pc2 := 35) rfl rfl rfl ?_
      refine z_getP (pc2 := 38) rfl rfl rfl rfl tfo ?_
      intro p3 p3e p3k
      obtain ⟨q4, rfl, q49, tq4, -⟩ := p3k
      replace tq4 : _ = ((2, 0, [18, 26, un]) : zT) := tq4
      refine zB_le tq4 trivial (fun q4l => ?_)
      refine z_iload_n (pc2 := 39) rfl rfl rfl ?_
      refine z_iconst (pc2 := 40) rfl rfl ?_
      refine z_imul (pc2 := 41) rfl rfl ?_
      refine z_iload (pc2 := 43) rfl rfl rfl ?_
      refine z_iadd (pc2 := 44) rfl rfl ?_
      refine z_iald (pc2 := 45) rfl rfl tq4 (by omega) (by omega) (by omega) ?_
      intro v5 e5 r5 k5
      replace k5 := ok_26 k5
      clear e5
      refine z_icmp_eq (t := 50) (pc2 := 48) rfl rfl rfl (by omega) (by omega) (fun c6 => ?_) (fun c6 => ?_)
      ·
        refine z_iinc (lv2 := [(5, _), (0, _), (1, _), (2, _), (3, _), (4, _)]) (pc2 := 53) rfl rfl rfl rfl rfl ?_
        refine z_goto (pc2 := 21) rfl rfl ?_
        refine z_lv (lv2 := [(0, _), (1, _), (2, _), (3, _), (4, _), (5, _)]) ⟨rfl, rfl, rfl, rfl, rfl, rfl, trivial⟩ ?_
        exact ih _ (by omega) (by omega)
      ·
        refine z_iconst (pc2 := 49) rfl rfl ?_
        refine z_zret rfl rfl (by omega) ?_
        exact hK _ (by omega)
set_option maxHeartbeats 8000000 in
theorem c_Fount_isJoinAt {L : Nat} {xs : Nat → Int32} {n sl : Nat} {T : Nat → zT} {I : Nat → Nat → Int} {P : Nat → Nat → Option Nat} {G : Nat → Nat → Int} {K : List zV → zH → Prop} {j a sm un : Int} {fo sg : Nat} (hn : 90 ≤ n) (hC : ∀ a, 1 ≤ a → a ≤ 55 → T a = zFixC a) (hj : 0 ≤ j ∧ j ≤ 5) (ha : 0 ≤ a ∧ a ≤ 39) (hsm : 0 ≤ sm ∧ sm ≤ 40) (hun : 0 ≤ un ∧ un ≤ 24) (tfo : T fo = (1, 3, [un])) (fol : fo ≤ n) (fo9 : 91 ≤ fo) (tsg : T sg = (2, 0, [sm, 25])) (sgl : sg ≤ n) (hK : ∀ e, (0 ≤ e ∧ e ≤ 1) → K [.inl e] (n, sl, T, I, P, G)) : zX zMd L xs 42 [.inr (.inl (some fo)), .inl j, .inr (.inl (some sg)), .inl a] (n, sl, T, I, P, G) K := by
  refine z_inl ?_
  refine z_lv (lv2 := [(0, _), (1, _), (2, _), (3, _)]) ⟨rfl, rfl, rfl, rfl, trivial⟩ ?_
  refine z_aload_n (pc2 := 1) rfl rfl rfl ?_
  refine z_iload_n (pc2 := 2) rfl rfl rfl ?_
  refine z_callV (y2 := 39) (as := [_]) (rest := []) (pc2 := 5) rfl rfl rfl rfl tfo rfl ?_
  refine c_Fount_joinLength hn hC (by omega) (by omega) tfo (by omega) (by omega) (fun w1 w1r => ?_)
  show zB _ _ _ _ _ _ [_] _ _
  refine z_istore (lv2 := [(4, _), (0, _), (1, _), (2, _), (3, _)]) (pc2 := 7) rfl rfl rfl rfl ?_
  refine z_iload_n (pc2 := 8) rfl rfl rfl ?_
  refine z_iload (pc2 := 10) rfl rfl rfl ?_
  refine z_iadd (pc2 := 11) rfl rfl ?_
  refine z_aload_n (pc2 := 12) rfl rfl rfl ?_
  refine z_alen (pc2 := 13) rfl rfl tsg rfl (by omega) ?_
  refine z_icmp_le (t := 18) (pc2 := 16) rfl rfl rfl (by omega) (by omega) (fun c2 => ?_) (fun c2 => ?_)
  ·
    refine z_iconst (pc2 := 19) rfl rfl ?_
    refine z_istore (lv2 := [(5, _), (4, _), (0, _), (1, _), (2, _), (3, _)]) (pc2 := 21) rfl rfl rfl rfl ?_
    refine z_lv (lv2 := [(0, _), (1, _), (2, _), (3, _), (4, _), (5, _)]) ⟨rfl, rfl, rfl, rfl, rfl, rfl, trivial⟩ ?_
    exact cl_Fount_isJoinAt hn hC (by omega) (by omega) (by omega) (by omega) (by omega) (by omega) tfo fol fo9 tsg sgl hK _  _ (by omega)    (Nat.lt_succ_self _)
  ·
    refine z_iconst (pc2 := 17) rfl rfl ?_
    refine z_zret rfl rfl (by omega) ?_
    exact hK _ (by omega)
set_option maxHeartbeats 8000000 in
theorem cl_Reading_joinAt {L : Nat} {xs : Nat → Int32} {n sl : Nat} {T : Nat → zT} {I : Nat → Nat → Int} {P : Nat → Nat → Option Nat} {G : Nat → Nat → Int} {K : List zV → zH → Prop} {a sm un : Int} {fo sg : Nat} (hn : 90 ≤ n) (hC : ∀ a, 1 ≤ a → a ≤ 55 → T a = zFixC a) (ha : 0 ≤ a ∧ a ≤ 39) (hsm : 0 ≤ sm ∧ sm ≤ 40) (hun : 0 ≤ un ∧ un ≤ 24) (hsg : P 5 5 = some sg) (hfo5 : P 5 4 = some fo) (tsg : T sg = (2, 0, [sm, 25])) (sgl : sg ≤ n) (tfo : T fo = (1, 3, [un])) (fol : fo ≤ n) (fo9 : 91 ≤ fo) (hK : ∀ e, (-1 ≤ e ∧ e ≤ 5) → (0 ≤ e → 1 ≤ un) → K [.inl e] (n, sl, T, I, P, G)) (m : Nat) : ∀ (b k : Int), -1 ≤ b ∧ b ≤ 5 → 0 ≤ k ∧ k ≤ 6 → (0 ≤ b → 1 ≤ un) → (6 - k).toNat < m → zB zMd L xs 69 4 [(0, .inr (.inl (some 5))), (1, .inl a), (2, .inl b), (3, .inl k)] [] (n, sl, T, I, P, G) K := by
  have t5 : T 5 = (1, 7, [1]) := hC 5 (by decide) (by decide)
  induction m with
  | zero => intro b k hb hk hb3 hm; omega
  | succ m ih =>
    intro b k hb hk hb3 hm
    refine z_iload_n (pc2 := 5) rfl rfl rfl ?_
    refine z_aload_n (pc2 := 6) rfl rfl rfl ?_
    refine z_getP (pc2 := 9) rfl rfl rfl rfl t5 ?_
    intro p1 p1e p1k
    clear p1k; replace p1e : p1 = some fo := by rw [p1e]; first | exact hfo5 | exact Eq.symm hfo5 | (simp [zU]; first | done | exact hfo5 | exact Eq.symm hfo5 | omega)
    subst p1e
    refine z_getI (pc2 := 12) 0 rfl rfl rfl rfl rfl tfo ?_
    intro v2 e2 r2 k2
    replace k2 : (0 ≤ v2 ∧ v2 ≤ 6) ∧ (un = 0 → v2 = 0) := k2
    clear e2
    refine z_icmp_ge (t := 74) (pc2 := 15) rfl rfl rfl (by omega) (by omega) (fun c3 => ?_) (fun c3 => ?_)
    ·
      refine z_iload_n (pc2 := 75) rfl rfl rfl ?_
      refine z_iret rfl rfl ?_
      exact hK _ (by omega) (by omega)
    ·
      refine z_iload_n (pc2 := 16) rfl rfl rfl ?_
      refine z_if_lt (t := 38) (pc2 := 19) rfl rfl rfl (by omega) (fun c4 => ?_) (fun c4 => ?_)
      ·
        refine z_iconst (pc2 := 39) rfl rfl ?_
        refine z_goto (pc2 := 43) rfl rfl ?_
        refine z_istore (lv2 := [(4, _), (0, _), (1, _), (2, _), (3, _)]) (pc2 := 45) rfl rfl rfl rfl ?_
        refine z_iload (pc2 := 47) rfl rfl rfl ?_
        refine z_if_eq (t := 68) (pc2 := 50) rfl rfl rfl (by omega) (fun c5 => by exfalso; omega) (fun c5 => ?_)
        refine z_aload_n (pc2 := 51) rfl rfl rfl ?_
        refine z_getP (pc2 := 54) rfl rfl rfl rfl t5 ?_
        intro p6 p6e p6k
        clear p6k; replace p6e : p6 = some fo := by rw [p6e]; first | exact hfo5 | exact Eq.symm hfo5 | (simp [zU]; first | done | exact hfo5 | exact Eq.symm hfo5 | omega)
        subst p6e
        refine z_iload_n (pc2 := 55) rfl rfl rfl ?_
        refine z_aload_n (pc2 := 56) rfl rfl rfl ?_
        refine z_getP (pc2 := 59) rfl rfl rfl rfl t5 ?_
        intro p7 p7e p7k
        clear p7k; replace p7e : p7 = some sg := by rw [p7e]; first | exact hsg | exact Eq.symm hsg | (simp [zU]; first | done | exact hsg | exact Eq.symm hsg | omega)
        subst p7e
        refine z_iload_n (pc2 := 60) rfl rfl rfl ?_
        refine z_callV (y2 := 42) (as := [_, _, _]) (rest := []) (pc2 := 63) rfl rfl rfl rfl tfo rfl ?_
        refine c_Fount_isJoinAt hn hC (by omega) (by omega) (by omega) (by omega) tfo (by omega) (by omega) tsg (by omega) (fun w8 w8r => ?_)
        show zB _ _ _ _ _ _ [_] _ _
        refine z_if_eq (t := 68) (pc2 := 66) rfl rfl rfl (by omega) (fun c9 => ?_) (fun c9 => ?_)
        ·
          refine z_iinc (lv2 := [(3, _), (4, _), (0, _), (1, _), (2, _)]) (pc2 := 71) rfl rfl rfl rfl rfl ?_
          refine z_goto (pc2 := 4) rfl rfl ?_
          refine z_lv (lv2 := [(0, _), (1, _), (2, _), (3, _)]) ⟨rfl, rfl, rfl, rfl, trivial⟩ ?_
          exact ih _ _ (by omega) (by omega) (by omega) (by omega)
        ·
          refine z_iload_n (pc2 := 67) rfl rfl rfl ?_
          refine z_istore_n (lv2 := [(2, _), (4, _), (0, _), (1, _), (3, _)]) (pc2 := 68) rfl rfl rfl rfl ?_
          refine z_iinc (lv2 := [(3, _), (2, _), (4, _), (0, _), (1, _)]) (pc2 := 71) rfl rfl rfl rfl rfl ?_
          refine z_goto (pc2 := 4) rfl rfl ?_
          refine z_lv (lv2 := [(0, _), (1, _), (2, _), (3, _)]) ⟨rfl, rfl, rfl, rfl, trivial⟩ ?_
          exact ih _ _ (by omega) (by omega) (by omega) (by omega)
      ·
        refine z_aload_n (pc2 := 20) rfl rfl rfl ?_
        refine z_getP (pc2 := 23) rfl rfl rfl rfl t5 ?_
        intro p10 p10e p10k
        clear p10k; replace p10e : p10 = some fo := by rw [p10e]; first | exact hfo5 | exact Eq.symm hfo5 | (simp [zU]; first | done | exact hfo5 | exact Eq.symm hfo5 | omega)
        subst p10e
        refine z_iload_n (pc2 := 24) rfl rfl rfl ?_
        refine z_callV (y2 := 39) (as := [_]) (rest := []) (pc2 := 27) rfl rfl rfl rfl tfo rfl ?_
        refine c_Fount_joinLength hn hC (by omega) (by omega) tfo (by omega) (by omega) (fun w11 w11r => ?_)
        show zB _ _ _ _ _ _ [_] _ _
        refine z_aload_n (pc2 := 28) rfl rfl rfl ?_
        refine z_getP (pc2 := 31) rfl rfl rfl rfl t5 ?_
        intro p12 p12e p12k
        clear p12k; replace p12e : p12 = some fo := by rw [p12e]; first | exact hfo5 | exact Eq.symm hfo5 | (simp [zU]; first | done | exact hfo5 | exact Eq.symm hfo5 | omega)
        subst p12e
        refine z_iload_n (pc2 := 32) rfl rfl rfl ?_
        refine z_callV (y2 := 39) (as := [_]) (rest := [_]) (pc2 := 35) rfl rfl rfl rfl tfo rfl ?_
        refine c_Fount_joinLength hn hC (by omega) (by omega) tfo (by omega) (by omega) (fun w13 w13r => ?_)
        show zB _ _ _ _ _ _ [_, _] _ _
        refine z_icmp_le (t := 42) (pc2 := 38) rfl rfl rfl (by omega) (by omega) (fun c14 => ?_) (fun c14 => ?_)
        ·
          refine z_iconst (pc2 := 43) rfl rfl ?_
          refine z_istore (lv2 := [(4, _), (0, _), (1, _), (2, _), (3, _)]) (pc2 := 45) rfl rfl rfl rfl ?_
          refine z_iload (pc2 := 47) rfl rfl rfl ?_
          refine z_if_eq (t := 68) (pc2 := 50) rfl rfl rfl (by omega) (fun c15 => ?_) (fun c15 => by exfalso; omega)
          refine z_iinc (lv2 := [(3, _), (4, _), (0, _), (1, _), (2, _)]) (pc2 := 71) rfl rfl rfl rfl rfl ?_
          refine z_goto (pc2 := 4) rfl rfl ?_
          refine z_lv (lv2 := [(0, _), (1, _), (2, _), (3, _)]) ⟨rfl, rfl, rfl, rfl, trivial⟩ ?_
          exact ih _ _ (by omega) (by omega) (by omega) (by omega)
        ·
          refine z_iconst (pc2 := 39) rfl rfl ?_
          refine z_goto (pc2 := 43) rfl rfl ?_
          refine z_istore (lv2 := [(4, _), (0, _), (1, _), (2, _), (3, _)]) (pc2 := 45) rfl rfl rfl rfl ?_
          refine z_iload (pc2 := 47) rfl rfl rfl ?_
          refine z_if_eq (t := 68) (pc2 := 50) rfl rfl rfl (by omega) (fun c16 => by exfalso; omega) (fun c16 => ?_)
          refine z_aload_n (pc2 := 51) rfl rfl rfl ?_
          refine z_getP (pc2 := 54) rfl rfl rfl rfl t5 ?_
          intro p17 p17e p17k
          clear p17k; replace p17e : p17 = some fo := by rw [p17e]; first | exact hfo5 | exact Eq.symm hfo5 | (simp [zU]; first | done | exact hfo5 | exact Eq.symm hfo5 | omega)
          subst p17e
          refine z_iload_n (pc2 := 55) rfl rfl rfl ?_
          refine z_aload_n (pc2 := 56) rfl rfl rfl ?_
          refine z_getP (pc2 := 59) rfl rfl rfl rfl t5 ?_
          intro p18 p18e p18k
          clear p18k; replace p18e : p18 = some sg := by rw [p18e]; first | exact hsg | exact Eq.symm hsg | (simp [zU]; first | done | exact hsg | exact Eq.symm hsg | omega)
          subst p18e
          refine z_iload_n (pc2 := 60) rfl rfl rfl ?_
          refine z_callV (y2 := 42) (as := [_, _, _]) (rest := []) (pc2 := 63) rfl rfl rfl rfl tfo rfl ?_
          refine c_Fount_isJoinAt hn hC (by omega) (by omega) (by omega) (by omega) tfo (by omega) (by omega) tsg (by omega) (fun w19 w19r => ?_)
          show zB _ _ _ _ _ _ [_] _ _
          refine z_if_eq (t := 68) (pc2 := 66) rfl rfl rfl (by omega) (fun c20 => ?_) (fun c20 => ?_)
          ·
            refine z_iinc (lv2 := [(3, _), (4, _), (0, _), (1, _), (2, _)]) (pc2 := 71) rfl rfl rfl rfl rfl ?_
            refine z_goto (pc2 := 4) rfl rfl ?_
            refine z_lv (lv2 := [(0, _), (1, _), (2, _), (3, _)]) ⟨rfl, rfl, rfl, rfl, trivial⟩ ?_
            exact ih _ _ (by omega) (by omega) (by omega) (by omega)
          ·
            refine z_iload_n (pc2 := 67) rfl rfl rfl ?_
            refine z_istore_n (lv2 := [(2, _), (4, _), (0, _), (1, _), (3, _)]) (pc2 := 68) rfl rfl rfl rfl ?_
            refine z_iinc (lv2 := [(3, _), (2, _), (4, _), (0, _), (1, _)]) (pc2 := 71) rfl rfl rfl rfl rfl ?_
            refine z_goto (pc2 := 4) rfl rfl ?_
            refine z_lv (lv2 := [(0, _), (1, _), (2, _), (3, _)]) ⟨rfl, rfl, rfl, rfl, trivial⟩ ?_
            exact ih _ _ (by omega) (by omega) (by omega) (by omega)
set_option maxHeartbeats 8000000 in
theorem c_Reading_joinAt {L : Nat} {xs : Nat → Int32} {n sl : Nat} {T : Nat → zT} {I : Nat → Nat → Int} {P : Nat → Nat → Option Nat} {G : Nat → Nat → Int} {K : List zV → zH → Prop} {a sm un : Int} {fo sg : Nat} (hn : 90 ≤ n) (hC : ∀ a, 1 ≤ a → a ≤ 55 → T a = zFixC a) (ha : 0 ≤ a ∧ a ≤ 39) (hsm : 0 ≤ sm ∧ sm ≤ 40) (hun : 0 ≤ un ∧ un ≤ 24) (hsg : P 5 5 = some sg) (hfo5 : P 5 4 = some fo) (tsg : T sg = (2, 0, [sm, 25])) (sgl : sg ≤ n) (tfo : T fo = (1, 3, [un])) (fol : fo ≤ n) (fo9 : 91 ≤ fo) (hK : ∀ e, (-1 ≤ e ∧ e ≤ 5) → (0 ≤ e → 1 ≤ un) → K [.inl e] (n, sl, T, I, P, G)) : zX zMd L xs 69 [.inr (.inl (some 5)), .inl a] (n, sl, T, I, P, G) K := by
  refine z_inl ?_
  refine z_lv (lv2 := [(0, _), (1, _)]) ⟨rfl, rfl, trivial⟩ ?_
  refine z_iconst (pc2 := 1) rfl rfl ?_
  refine z_istore_n (lv2 := [(2, _), (0, _), (1, _)]) (pc2 := 2) rfl rfl rfl rfl ?_
  refine z_iconst (pc2 := 3) rfl rfl ?_
  refine z_istore_n (lv2 := [(3, _), (2, _), (0, _), (1, _)]) (pc2 := 4) rfl rfl rfl rfl ?_
  refine z_lv (lv2 := [(0, _), (1, _), (2, _), (3, _)]) ⟨rfl, rfl, rfl, rfl, trivial⟩ ?_
  exact cl_Reading_joinAt hn hC (by omega) (by omega) (by omega) hsg hfo5 tsg sgl tfo fol fo9 hK _  _ _ (by omega) (by omega)   (by omega) (Nat.lt_succ_self _)
set_option maxHeartbeats 8000000 in
theorem c_Reading_letterAt {L : Nat} {xs : Nat → Int32} {n sl : Nat} {T : Nat → zT} {I : Nat → Nat → Int} {P : Nat → Nat → Option Nat} {G : Nat → Nat → Int} {K : List zV → zH → Prop} {a sm un : Int} {fo sg : Nat} (hn : 90 ≤ n) (hC : ∀ a, 1 ≤ a → a ≤ 55 → T a = zFixC a) (ha : 0 ≤ a ∧ a ≤ 42) (hsm : 0 ≤ sm ∧ sm ≤ 40) (hun : 0 ≤ un ∧ un ≤ 24) (hsg : P 5 5 = some sg) (hfo5 : P 5 4 = some fo) (tsg : T sg = (2, 0, [sm, 25])) (sgl : sg ≤ n) (tfo : T fo = (1, 3, [un])) (fol : fo ≤ n) (fo9 : 91 ≤ fo) (hK : ∀ e, (-23 ≤ e ∧ e ≤ 23) → (0 ≤ e → e < un) → K [.inl e] (n, sl, T, I, P, G)) : zX zMd L xs 68 [.inr (.inl (some 5)), .inl a] (n, sl, T, I, P, G) K := by
  have t5 : T 5 = (1, 7, [1]) := hC 5 (by decide) (by decide)
  refine z_inl ?_
  refine z_lv (lv2 := [(0, _), (1, _)]) ⟨rfl, rfl, trivial⟩ ?_
  refine z_iload_n (pc2 := 1) rfl rfl rfl ?_
  refine z_aload_n (pc2 := 2) rfl rfl rfl ?_
  refine z_getP (pc2 := 5) rfl rfl rfl rfl t5 ?_
  intro p1 p1e p1k
  clear p1k; replace p1e : p1 = some sg := by rw [p1e]; first | exact hsg | exact Eq.symm hsg | (simp [zU]; first | done | exact hsg | exact Eq.symm hsg | omega)
  subst p1e
  refine z_alen (pc2 := 6) rfl rfl tsg rfl (by omega) ?_
  refine z_icmp_lt (t := 12) (pc2 := 9) rfl rfl rfl (by omega) (by omega) (fun c2 => ?_) (fun c2 => ?_)
  ·
    refine z_aload_n (pc2 := 13) rfl rfl rfl ?_
    refine z_getP (pc2 := 16) rfl rfl rfl rfl t5 ?_
    intro p3 p3e p3k
    clear p3k; replace p3e : p3 = some sg := by rw [p3e]; first | exact hsg | exact Eq.symm hsg | (simp [zU]; first | done | exact hsg | exact Eq.symm hsg | omega)
    subst p3e
    refine z_iload_n (pc2 := 17) rfl rfl rfl ?_
    refine z_iald (pc2 := 18) rfl rfl tsg (by omega) (by omega) (by omega) ?_
    intro v4 e4 r4 k4
    replace k4 : (0 : Int) ≤ v4 ∧ v4 ≤ 127 := k4
    refine z_callS (y2 := 71) (as := [_]) (rest := []) (pc2 := 21) rfl rfl rfl rfl ?_
    refine c_Reading_kindOf (by omega) (fun w5 w5r w5a w5b => ?_)
    show zB _ _ _ _ _ _ [_] _ _
    refine z_istore_n (lv2 := [(2, _), (0, _), (1, _)]) (pc2 := 22) rfl rfl rfl rfl ?_
    refine z_iload_n (pc2 := 23) rfl rfl rfl ?_
    refine z_iconst (pc2 := 24) rfl rfl ?_
    refine z_icmp_eq (t := 37) (pc2 := 27) rfl rfl rfl (by omega) (by omega) (fun c6 => ?_) (fun c6 => ?_)
    ·
      refine z_bipush (pc2 := 39) rfl rfl (by decide) ?_
      refine z_iret rfl rfl ?_
      exact hK _ (by omega) (by omega)
    ·
      refine z_iload_n (pc2 := 28) rfl rfl rfl ?_
      refine z_iconst (pc2 := 29) rfl rfl ?_
      refine z_icmp_eq (t := 37) (pc2 := 32) rfl rfl rfl (by omega) (by omega) (fun c7 => ?_) (fun c7 => ?_)
      ·
        refine z_bipush (pc2 := 39) rfl rfl (by decide) ?_
        refine z_iret rfl rfl ?_
        exact hK _ (by omega) (by omega)
      ·
        refine z_iload_n (pc2 := 33) rfl rfl rfl ?_
        refine z_iconst (pc2 := 34) rfl rfl ?_
        refine z_icmp_ne (t := 40) (pc2 := 37) rfl rfl rfl (by omega) (by omega) (fun c8 => ?_) (fun c8 => ?_)
        ·
          refine z_aload_n (pc2 := 41) rfl rfl rfl ?_
          refine z_getP (pc2 := 44) rfl rfl rfl rfl t5 ?_
          intro p9 p9e p9k
          clear p9k; replace p9e : p9 = some fo := by rw [p9e]; first | exact hfo5 | exact Eq.symm hfo5 | (simp [zU]; first | done | exact hfo5 | exact Eq.symm hfo5 | omega)
          subst p9e
          refine z_aload_n (pc2 := 45) rfl rfl rfl ?_
          refine z_getP (pc2 := 48) rfl rfl rfl rfl t5 ?_
          intro p10 p10e p10k
          clear p10k; replace p10e : p10 = some sg := by rw [p10e]; first | exact hsg | exact Eq.symm hsg | (simp [zU]; first | done | exact hsg | exact Eq.symm hsg | omega)
          subst p10e
          refine z_iload_n (pc2 := 49) rfl rfl rfl ?_
          refine z_iald (pc2 := 50) rfl rfl tsg (by omega) (by omega) (by omega) ?_
          intro v11 e11 r11 k11
          replace k11 : (0 : Int) ≤ v11 ∧ v11 ≤ 127 := k11
          replace e11 : v4 = v11 := by rw [e11]; first | exact e4 | exact Eq.symm e4 | (simp [zU]; first | done | exact e4 | exact Eq.symm e4 | omega)
          subst e11
          refine z_callV (y2 := 37) (as := [_]) (rest := []) (pc2 := 53) rfl rfl rfl rfl tfo rfl ?_
          refine z_inl ?_
          refine z_lv (lv2 := [(0, _), (1, _)]) ⟨rfl, rfl, trivial⟩ ?_
          refine z_iload_n (pc2 := 1) rfl rfl rfl ?_
          refine z_if_lt (t := 16) (pc2 := 4) rfl rfl rfl (by omega) (fun c12 => by exfalso; omega) (fun c12 => ?_)
          refine z_iload_n (pc2 := 5) rfl rfl rfl ?_
          refine z_aload_n (pc2 := 6) rfl rfl rfl ?_
          refine z_getI (pc2 := 9) 0 rfl rfl rfl rfl rfl tfo ?_
          intro v13 e13 r13 k13
          replace k13 : un = v13 := Eq.symm k13
          subst k13
          refine z_icmp_ge (t := 16) (pc2 := 12) rfl rfl rfl (by omega) (by omega) (fun c14 => ?_) (fun c14 => ?_)
          ·
            refine z_iconst (pc2 := 17) rfl rfl ?_
            refine z_zret rfl rfl (by omega) ?_
            show zB _ _ _ _ _ _ [_] _ _
            refine z_if_eq (t := 65) (pc2 := 56) rfl rfl rfl (by omega) (fun c15 => ?_) (fun c15 => by exfalso; omega)
            refine z_bipush (pc2 := 67) rfl rfl (by decide) ?_
            refine z_iret rfl rfl ?_
            exact hK _ (by omega) (by omega)
          ·
            refine z_iconst (pc2 := 13) rfl rfl ?_
            refine z_goto (pc2 := 17) rfl rfl ?_
            refine z_zret rfl rfl (by omega) ?_
            show zB _ _ _ _ _ _ [_] _ _
            refine z_if_eq (t := 65) (pc2 := 56) rfl rfl rfl (by omega) (fun c16 => by exfalso; omega) (fun c16 => ?_)
            refine z_aload_n (pc2 := 57) rfl rfl rfl ?_
            refine z_getP (pc2 := 60) rfl rfl rfl rfl t5 ?_
            intro p17 p17e p17k
            clear p17k; replace p17e : p17 = some sg := by rw [p17e]; first | exact hsg | exact Eq.symm hsg | (simp [zU]; first | done | exact hsg | exact Eq.symm hsg | omega)
            subst p17e
            refine z_iload_n (pc2 := 61) rfl rfl rfl ?_
            refine z_iald (pc2 := 62) rfl rfl tsg (by omega) (by omega) (by omega) ?_
            intro v18 e18 r18 k18
            replace k18 : (0 : Int) ≤ v18 ∧ v18 ≤ 127 := k18
            replace e18 : v4 = v18 := by rw [e18]; first | exact e4 | exact Eq.symm e4 | (simp [zU]; first | done | exact e4 | exact Eq.symm e4 | omega)
            subst e18
            refine z_goto (pc2 := 67) rfl rfl ?_
            refine z_iret rfl rfl ?_
            exact hK _ (by omega) (by omega)
        ·
          refine z_bipush (pc2 := 39) rfl rfl (by decide) ?_
          refine z_iret rfl rfl ?_
          exact hK _ (by omega) (by omega)
  ·
    refine z_bipush (pc2 := 11) rfl rfl (by decide) ?_
    refine z_iret rfl rfl ?_
    exact hK _ (by omega) (by omega)
set_option maxHeartbeats 8000000 in
theorem c_Reading_found {L : Nat} {xs : Nat → Int32} {n sl : Nat} {T : Nat → zT} {I : Nat → Nat → Int} {P : Nat → Nat → Option Nat} {G : Nat → Nat → Int} {K : List zV → zH → Prop} {kd cd sd r un c : Int} (hn : 90 ≤ n) (hC : ∀ a, 1 ≤ a → a ≤ 55 → T a = zFixC a) (hkd : 0 ≤ kd ∧ kd ≤ 7) (hcd : 0 ≤ cd ∧ cd ≤ 23) (hsd : 0 ≤ sd ∧ sd ≤ 23) (hr : 1 ≤ r ∧ r ≤ 3) (hun : 0 ≤ un ∧ un ≤ 24) (hc : 0 ≤ c ∧ c ≤ 39) (hc5 : I 5 3 = c) (htk : zTkn un c I) (hv : zTw un kd cd sd) (hK : ∀ I2, zRdf I I2 → I2 5 3 = c + 1 → zTkn un (c + 1) I2 → K [.inl r] (n, sl, T, I2, P, G)) : zX zMd L xs 70 [.inr (.inl (some 5)), .inl kd, .inl cd, .inl sd, .inl r] (n, sl, T, I, P, G) K := by
  have t5 : T 5 = (1, 7, [1]) := hC 5 (by decide) (by decide)
  have t6 : T 6 = (2, 0, [40, 20]) := hC 6 (by decide) (by decide)
  have t7 : T 7 = (2, 0, [40, 21]) := hC 7 (by decide) (by decide)
  have t8 : T 8 = (2, 0, [40, 21]) := hC 8 (by decide) (by decide)
  refine z_inl ?_
  refine z_lv (lv2 := [(0, _), (1, _), (2, _), (3, _), (4, _)]) ⟨rfl, rfl, rfl, rfl, rfl, trivial⟩ ?_
  refine z_aload_n (pc2 := 1) rfl rfl rfl ?_
  refine z_getP (pc2 := 4) rfl rfl rfl rfl t5 ?_
  intro p1 p1e p1k
  replace p1k : p1 = some 6 := p1k; clear p1e; subst p1k
  refine z_aload_n (pc2 := 5) rfl rfl rfl ?_
  refine z_getI (pc2 := 8) 0 rfl rfl rfl rfl rfl t5 ?_
  intro v2 e2 r2 k2
  replace k2 : (0 : Int) ≤ v2 ∧ v2 ≤ 40 := k2
  replace e2 : c = v2 := by rw [e2]; first | exact hc5 | exact Eq.symm hc5 | (simp [zU]; first | done | exact hc5 | exact Eq.symm hc5 | omega)
  subst e2
  refine z_iload_n (pc2 := 9) rfl rfl rfl ?_
  refine z_iast (pc2 := 10) rfl rfl t6 (by omega) (by omega) (by omega) (by omega) (by show (0 : Int) ≤ _ ∧ _ ≤ 7; omega) ?_
  refine z_aload_n (pc2 := 11) rfl rfl rfl ?_
  refine z_getP (pc2 := 14) rfl rfl rfl rfl t5 ?_
  intro p3 p3e p3k
  replace p3k : p3 = some 7 := p3k; clear p3e; subst p3k
  refine z_aload_n (pc2 := 15) rfl rfl rfl ?_
  refine z_getI (pc2 := 18) 0 rfl rfl rfl rfl rfl t5 ?_
  intro v4 e4 r4 k4
  replace k4 : (0 : Int) ≤ v4 ∧ v4 ≤ 40 := k4
  replace e4 : c = v4 := by rw [e4]; first | exact hc5 | exact Eq.symm hc5 | (simp [zU]; first | done | exact hc5 | exact Eq.symm hc5 | omega)
  subst e4
  refine z_iload_n (pc2 := 19) rfl rfl rfl ?_
  refine z_iast (pc2 := 20) rfl rfl t7 (by omega) (by omega) (by omega) (by omega) (by show (0 : Int) ≤ _ ∧ _ ≤ 23; omega) ?_
  refine z_aload_n (pc2 := 21) rfl rfl rfl ?_
  refine z_getP (pc2 := 24) rfl rfl rfl rfl t5 ?_
  intro p5 p5e p5k
  replace p5k : p5 = some 8 := p5k; clear p5e; subst p5k
  refine z_aload_n (pc2 := 25) rfl rfl rfl ?_
  refine z_getI (pc2 := 28) 0 rfl rfl rfl rfl rfl t5 ?_
  intro v6 e6 r6 k6
  replace k6 : (0 : Int) ≤ v6 ∧ v6 ≤ 40 := k6
  replace e6 : c = v6 := by rw [e6]; first | exact hc5 | exact Eq.symm hc5 | (simp [zU]; first | done | exact hc5 | exact Eq.symm hc5 | omega)
  subst e6
  refine z_iload_n (pc2 := 29) rfl rfl rfl ?_
  refine z_iast (pc2 := 30) rfl rfl t8 (by omega) (by omega) (by omega) (by omega) (by show (0 : Int) ≤ _ ∧ _ ≤ 23; omega) ?_
  refine z_aload_n (pc2 := 31) rfl rfl rfl ?_
  refine z_dup (pc2 := 32) rfl rfl rfl ?_
  refine z_getI (pc2 := 35) 0 rfl rfl rfl rfl rfl t5 ?_
  intro v7 e7 r7 k7
  replace k7 : (0 : Int) ≤ v7 ∧ v7 ≤ 40 := k7
  replace e7 : c = v7 := by rw [e7]; first | exact hc5 | exact Eq.symm hc5 | (simp [zU]; first | done | exact hc5 | exact Eq.symm hc5 | omega)
  subst e7
  refine z_iconst (pc2 := 36) rfl rfl ?_
  refine z_iadd (pc2 := 37) rfl rfl ?_
  refine z_putI (pc2 := 40) rfl rfl rfl rfl rfl rfl t5 (by omega) (by show (0 : Int) ≤ _ ∧ _ ≤ 40; omega) ?_
  refine z_iload (pc2 := 42) rfl rfl rfl ?_
  refine z_iret rfl rfl ?_
  exact hK _ zRdf_f (by simp [zU]) (zTkn_f htk (by omega) hv)
set_option maxHeartbeats 8000000 in
theorem c_Reading_readStackAt {L : Nat} {xs : Nat → Int32} {n sl : Nat} {T : Nat → zT} {I : Nat → Nat → Int} {P : Nat → Nat → Option Nat} {G : Nat → Nat → Int} {K : List zV → zH → Prop} {a sm un c : Int} {fo sg : Nat} (hn : 90 ≤ n) (hC : ∀ a, 1 ≤ a → a ≤ 55 → T a = zFixC a) (ha : 0 ≤ a ∧ a ≤ 39) (hsm : 0 ≤ sm ∧ sm ≤ 40) (hun : 0 ≤ un ∧ un ≤ 24) (hc : 0 ≤ c ∧ c ≤ 39) (hsg : P 5 5 = some sg) (hfo5 : P 5 4 = some fo) (tsg : T sg = (2, 0, [sm, 25])) (sgl : sg ≤ n) (tfo : T fo = (1, 3, [un])) (fol : fo ≤ n) (fo9 : 91 ≤ fo) (hc5 : I 5 3 = c) (htk : zTkn un c I) (ham : a < sm) (hK : ∀ e I2, zRdf I I2 → (-23 ≤ e ∧ e ≤ 3 ∧ e ≠ 0) → (0 < e → I2 5 3 = c + 1 ∧ zTkn un (c + 1) I2) → K [.inl e] (n, sl, T, I2, P, G)) : zX zMd L xs 66 [.inr (.inl (some 5)), .inl a] (n, sl, T, I, P, G) K := by
  have t5 : T 5 = (1, 7, [1]) := hC 5 (by decide) (by decide)
  refine z_inl ?_
  refine z_lv (lv2 := [(0, _), (1, _)]) ⟨rfl, rfl, trivial⟩ ?_
  refine z_aload_n (pc2 := 1) rfl rfl rfl ?_
  refine z_iload_n (pc2 := 2) rfl rfl rfl ?_
  refine z_iconst (pc2 := 3) rfl rfl ?_
  refine z_iadd (pc2 := 4) rfl rfl ?_
  refine z_callV (y2 := 68) (as := [_]) (rest := []) (pc2 := 7) rfl rfl rfl rfl t5 rfl ?_
  refine c_Reading_letterAt hn hC (by omega) (by omega) (by omega) hsg hfo5 tsg sgl tfo fol fo9 (fun w1 w1r w1u => ?_)
  show zB _ _ _ _ _ _ [_] _ _
  refine z_istore_n (lv2 := [(2, _), (0, _), (1, _)]) (pc2 := 8) rfl rfl rfl rfl ?_
  refine z_iload_n (pc2 := 9) rfl rfl rfl ?_
  refine z_if_ge (t := 14) (pc2 := 12) rfl rfl rfl (by omega) (fun c2 => ?_) (fun c2 => ?_)
  ·
    refine z_aload_n (pc2 := 15) rfl rfl rfl ?_
    refine z_iload_n (pc2 := 16) rfl rfl rfl ?_
    refine z_iconst (pc2 := 17) rfl rfl ?_
    refine z_iadd (pc2 := 18) rfl rfl ?_
    refine z_callV (y2 := 68) (as := [_]) (rest := []) (pc2 := 21) rfl rfl rfl rfl t5 rfl ?_
    refine c_Reading_letterAt hn hC (by omega) (by omega) (by omega) hsg hfo5 tsg sgl tfo fol fo9 (fun w3 w3r w3u => ?_)
    show zB _ _ _ _ _ _ [_] _ _
    refine z_istore_n (lv2 := [(3, _), (2, _), (0, _), (1, _)]) (pc2 := 22) rfl rfl rfl rfl ?_
    refine z_iload_n (pc2 := 23) rfl rfl rfl ?_
    refine z_if_ge (t := 30) (pc2 := 26) rfl rfl rfl (by omega) (fun c4 => ?_) (fun c4 => ?_)
    ·
      refine z_aload_n (pc2 := 31) rfl rfl rfl ?_
      refine z_iconst (pc2 := 32) rfl rfl ?_
      refine z_iload_n (pc2 := 33) rfl rfl rfl ?_
      refine z_iload_n (pc2 := 34) rfl rfl rfl ?_
      refine z_iconst (pc2 := 35) rfl rfl ?_
      refine z_callV (y2 := 70) (as := [_, _, _, _]) (rest := []) (pc2 := 38) rfl rfl rfl rfl t5 rfl ?_
      refine c_Reading_found (un := un) (c := c) hn hC (by omega) (by omega) (by omega) (by omega) (by omega) (by omega) hc5 htk (by unfold zTw; omega) (fun I5 f5 h5 t5 => ?_)
      show zB _ _ _ _ _ _ [_] _ _
      refine z_iret rfl rfl ?_
      exact hK _ _ f5 (by omega) (fun _ => ⟨h5, t5⟩)
    ·
      refine z_iload_n (pc2 := 27) rfl rfl rfl ?_
      refine z_goto (pc2 := 38) rfl rfl ?_
      refine z_iret rfl rfl ?_
      exact hK _ _ zRdf_rf (by omega) (fun h => by exfalso; omega)
  ·
    refine z_iload_n (pc2 := 13) rfl rfl rfl ?_
    refine z_iret rfl rfl ?_
    exact hK _ _ zRdf_rf (by omega) (fun h => by exfalso; omega)
set_option maxHeartbeats 8000000 in
theorem c_Reading_readLetterAt {L : Nat} {xs : Nat → Int32} {n sl : Nat} {T : Nat → zT} {I : Nat → Nat → Int} {P : Nat → Nat → Option Nat} {G : Nat → Nat → Int} {K : List zV → zH → Prop} {a sm un c : Int} {fo sg : Nat} (hn : 90 ≤ n) (hC : ∀ a, 1 ≤ a → a ≤ 55 → T a = zFixC a) (ha : 0 ≤ a ∧ a ≤ 39) (hsm : 0 ≤ sm ∧ sm ≤ 40) (hun : 0 ≤ un ∧ un ≤ 24) (hc : 0 ≤ c ∧ c ≤ 39) (hsg : P 5 5 = some sg) (hfo5 : P 5 4 = some fo) (tsg : T sg = (2, 0, [sm, 25])) (sgl : sg ≤ n) (tfo : T fo = (1, 3, [un])) (fol : fo ≤ n) (fo9 : 91 ≤ fo) (hc5 : I 5 3 = c) (htk : zTkn un c I) (ham : a < sm) (hK : ∀ e I2, zRdf I I2 → (-23 ≤ e ∧ e ≤ 3 ∧ e ≠ 0) → (0 < e → I2 5 3 = c + 1 ∧ zTkn un (c + 1) I2) → K [.inl e] (n, sl, T, I2, P, G)) : zX zMd L xs 67 [.inr (.inl (some 5)), .inl a] (n, sl, T, I, P, G) K := by
  have t5 : T 5 = (1, 7, [1]) := hC 5 (by decide) (by decide)
  have t13 : T 13 = (2, 0, [144, 0]) := hC 13 (by decide) (by decide)
  have t16 : T 16 = (2, 0, [41, 23]) := hC 16 (by decide) (by decide)
  refine z_inl ?_
  refine z_lv (lv2 := [(0, _), (1, _)]) ⟨rfl, rfl, trivial⟩ ?_
  refine z_aload_n (pc2 := 1) rfl rfl rfl ?_
  refine z_iload_n (pc2 := 2) rfl rfl rfl ?_
  refine z_callV (y2 := 69) (as := [_]) (rest := []) (pc2 := 5) rfl rfl rfl rfl t5 rfl ?_
  refine c_Reading_joinAt hn hC (by omega) (by omega) (by omega) hsg hfo5 tsg sgl tfo fol fo9 (fun w1 w1r w1u => ?_)
  show zB _ _ _ _ _ _ [_] _ _
  refine z_istore_n (lv2 := [(2, _), (0, _), (1, _)]) (pc2 := 6) rfl rfl rfl rfl ?_
  refine z_iload_n (pc2 := 7) rfl rfl rfl ?_
  refine z_if_lt (t := 26) (pc2 := 10) rfl rfl rfl (by omega) (fun c2 => ?_) (fun c2 => ?_)
  ·
    refine z_aload_n (pc2 := 27) rfl rfl rfl ?_
    refine z_getP (pc2 := 30) rfl rfl rfl rfl t5 ?_
    intro p3 p3e p3k
    clear p3k; replace p3e : p3 = some fo := by rw [p3e]; first | exact hfo5 | exact Eq.symm hfo5 | (simp [zU]; first | done | exact hfo5 | exact Eq.symm hfo5 | omega)
    subst p3e
    refine z_aload_n (pc2 := 31) rfl rfl rfl ?_
    refine z_getP (pc2 := 34) rfl rfl rfl rfl t5 ?_
    intro p4 p4e p4k
    clear p4k; replace p4e : p4 = some sg := by rw [p4e]; first | exact hsg | exact Eq.symm hsg | (simp [zU]; first | done | exact hsg | exact Eq.symm hsg | omega)
    subst p4e
    refine z_iload_n (pc2 := 35) rfl rfl rfl ?_
    refine z_iald (pc2 := 36) rfl rfl tsg (by omega) (by omega) (by omega) ?_
    intro v5 e5 r5 k5
    replace k5 : (0 : Int) ≤ v5 ∧ v5 ≤ 127 := k5
    refine z_callV (y2 := 37) (as := [_]) (rest := []) (pc2 := 39) rfl rfl rfl rfl tfo rfl ?_
    refine z_inl ?_
    refine z_lv (lv2 := [(0, _), (1, _)]) ⟨rfl, rfl, trivial⟩ ?_
    refine z_iload_n (pc2 := 1) rfl rfl rfl ?_
    refine z_if_lt (t := 16) (pc2 := 4) rfl rfl rfl (by omega) (fun c6 => by exfalso; omega) (fun c6 => ?_)
    refine z_iload_n (pc2 := 5) rfl rfl rfl ?_
    refine z_aload_n (pc2 := 6) rfl rfl rfl ?_
    refine z_getI (pc2 := 9) 0 rfl rfl rfl rfl rfl tfo ?_
    intro v7 e7 r7 k7
    replace k7 : un = v7 := Eq.symm k7
    subst k7
    refine z_icmp_ge (t := 16) (pc2 := 12) rfl rfl rfl (by omega) (by omega) (fun c8 => ?_) (fun c8 => ?_)
    ·
      refine z_iconst (pc2 := 17) rfl rfl ?_
      refine z_zret rfl rfl (by omega) ?_
      show zB _ _ _ _ _ _ [_] _ _
      refine z_if_eq (t := 58) (pc2 := 42) rfl rfl rfl (by omega) (fun c9 => ?_) (fun c9 => by exfalso; omega)
      refine z_bipush (pc2 := 60) rfl rfl (by decide) ?_
      refine z_iret rfl rfl ?_
      exact hK _ _ zRdf_rf (by omega) (fun h => by exfalso; omega)
    ·
      refine z_iconst (pc2 := 13) rfl rfl ?_
      refine z_goto (pc2 := 17) rfl rfl ?_
      refine z_zret rfl rfl (by omega) ?_
      show zB _ _ _ _ _ _ [_] _ _
      refine z_if_eq (t := 58) (pc2 := 42) rfl rfl rfl (by omega) (fun c10 => by exfalso; omega) (fun c10 => ?_)
      refine z_aload_n (pc2 := 43) rfl rfl rfl ?_
      refine z_iconst (pc2 := 44) rfl rfl ?_
      refine z_aload_n (pc2 := 45) rfl rfl rfl ?_
      refine z_getP (pc2 := 48) rfl rfl rfl rfl t5 ?_
      intro p11 p11e p11k
      clear p11k; replace p11e : p11 = some sg := by rw [p11e]; first | exact hsg | exact Eq.symm hsg | (simp [zU]; first | done | exact hsg | exact Eq.symm hsg | omega)
      subst p11e
      refine z_iload_n (pc2 := 49) rfl rfl rfl ?_
      refine z_iald (pc2 := 50) rfl rfl tsg (by omega) (by omega) (by omega) ?_
      intro v12 e12 r12 k12
      replace k12 : (0 : Int) ≤ v12 ∧ v12 ≤ 127 := k12
      replace e12 : v5 = v12 := by rw [e12]; first | exact e5 | exact Eq.symm e5 | (simp [zU]; first | done | exact e5 | exact Eq.symm e5 | omega)
      subst e12
      refine z_iconst (pc2 := 51) rfl rfl ?_
      refine z_iconst (pc2 := 52) rfl rfl ?_
      refine z_callV (y2 := 70) (as := [_, _, _, _]) (rest := []) (pc2 := 55) rfl rfl rfl rfl t5 rfl ?_
      refine c_Reading_found (un := un) (c := c) hn hC (by omega) (by omega) (by omega) (by omega) (by omega) (by omega) hc5 htk (by unfold zTw; omega) (fun I13 f13 h13 t13 => ?_)
      show zB _ _ _ _ _ _ [_] _ _
      refine z_goto (pc2 := 60) rfl rfl ?_
      refine z_iret rfl rfl ?_
      exact hK _ _ f13 (by omega) (fun _ => ⟨h13, t13⟩)
  ·
    refine z_aload_n (pc2 := 11) rfl rfl rfl ?_
    refine z_iconst (pc2 := 12) rfl rfl ?_
    refine z_iload_n (pc2 := 13) rfl rfl rfl ?_
    refine z_iconst (pc2 := 14) rfl rfl ?_
    refine z_aload_n (pc2 := 15) rfl rfl rfl ?_
    refine z_getP (pc2 := 18) rfl rfl rfl rfl t5 ?_
    intro p14 p14e p14k
    clear p14k; replace p14e : p14 = some fo := by rw [p14e]; first | exact hfo5 | exact Eq.symm hfo5 | (simp [zU]; first | done | exact hfo5 | exact Eq.symm hfo5 | omega)
    subst p14e
    refine z_iload_n (pc2 := 19) rfl rfl rfl ?_
    refine z_callV (y2 := 39) (as := [_]) (rest := [_, _, _, _]) (pc2 := 22) rfl rfl rfl rfl tfo rfl ?_
    refine c_Fount_joinLength hn hC (by omega) (by omega) tfo (by omega) (by omega) (fun w15 w15r => ?_)
    show zB _ _ _ _ _ _ [_, _, _, _, _] _ _
    refine z_callV (y2 := 70) (as := [_, _, _, _]) (rest := []) (pc2 := 25) rfl rfl rfl rfl t5 rfl ?_
    refine c_Reading_found (un := un) (c := c) hn hC (by omega) (by omega) (by omega) (by omega) (by omega) (by omega) hc5 htk (by unfold zTw; omega) (fun I16 f16 h16 t16 => ?_)
    show zB _ _ _ _ _ _ [_] _ _
    refine z_iret rfl rfl ?_
    exact hK _ _ f16 (by omega) (fun _ => ⟨h16, t16⟩)
set_option maxHeartbeats 8000000 in
theorem c_Reading_readAt {L : Nat} {xs : Nat → Int32} {n sl : Nat} {T : Nat → zT} {I : Nat → Nat → Int} {P : Nat → Nat → Option Nat} {G : Nat → Nat → Int} {K : List zV → zH → Prop} {a sm un c : Int} {fo sg : Nat} (hn : 90 ≤ n) (hC : ∀ a, 1 ≤ a → a ≤ 55 → T a = zFixC a) (ha : 0 ≤ a ∧ a ≤ 39) (hsm : 0 ≤ sm ∧ sm ≤ 40) (hun : 0 ≤ un ∧ un ≤ 24) (hc : 0 ≤ c ∧ c ≤ 39) (hsg : P 5 5 = some sg) (hfo5 : P 5 4 = some fo) (tsg : T sg = (2, 0, [sm, 25])) (sgl : sg ≤ n) (tfo : T fo = (1, 3, [un])) (fol : fo ≤ n) (fo9 : 91 ≤ fo) (hc5 : I 5 3 = c) (htk : zTkn un c I) (ham : a < sm) (hK : ∀ e I2, zRdf I I2 → (-23 ≤ e ∧ e ≤ 3 ∧ e ≠ 0) → (0 < e → I2 5 3 = c + 1 ∧ zTkn un (c + 1) I2) → K [.inl e] (n, sl, T, I2, P, G)) : zX zMd L xs 65 [.inr (.inl (some 5)), .inl a] (n, sl, T, I, P, G) K := by
  have t5 : T 5 = (1, 7, [1]) := hC 5 (by decide) (by decide)
  have t8 : T 8 = (2, 0, [40, 21]) := hC 8 (by decide) (by decide)
  have t16 : T 16 = (2, 0, [41, 23]) := hC 16 (by decide) (by decide)
  refine z_inl ?_
  refine z_lv (lv2 := [(0, _), (1, _)]) ⟨rfl, rfl, trivial⟩ ?_
  refine z_aload_n (pc2 := 1) rfl rfl rfl ?_
  refine z_getP (pc2 := 4) rfl rfl rfl rfl t5 ?_
  intro p1 p1e p1k
  clear p1k; replace p1e : p1 = some sg := by rw [p1e]; first | exact hsg | exact Eq.symm hsg | (simp [zU]; first | done | exact hsg | exact Eq.symm hsg | omega)
  subst p1e
  refine z_iload_n (pc2 := 5) rfl rfl rfl ?_
  refine z_iald (pc2 := 6) rfl rfl tsg (by omega) (by omega) (by omega) ?_
  intro v2 e2 r2 k2
  replace k2 : (0 : Int) ≤ v2 ∧ v2 ≤ 127 := k2
  refine z_istore_n (lv2 := [(2, _), (0, _), (1, _)]) (pc2 := 7) rfl rfl rfl rfl ?_
  refine z_iload_n (pc2 := 8) rfl rfl rfl ?_
  refine z_bipush (pc2 := 10) rfl rfl (by decide) ?_
  refine z_icmp_ne (t := 19) (pc2 := 13) rfl rfl rfl (by omega) (by omega) (fun c3 => ?_) (fun c3 => ?_)
  ·
    refine z_iload_n (pc2 := 20) rfl rfl rfl ?_
    refine z_callS (y2 := 71) (as := [_]) (rest := []) (pc2 := 23) rfl rfl rfl rfl ?_
    refine c_Reading_kindOf (by omega) (fun w4 w4r w4a w4b => ?_)
    show zB _ _ _ _ _ _ [_] _ _
    refine z_istore_n (lv2 := [(3, _), (2, _), (0, _), (1, _)]) (pc2 := 24) rfl rfl rfl rfl ?_
    refine z_iload_n (pc2 := 25) rfl rfl rfl ?_
    refine z_if_ne (t := 34) (pc2 := 28) rfl rfl rfl (by omega) (fun c5 => ?_) (fun c5 => ?_)
    ·
      refine z_iload_n (pc2 := 35) rfl rfl rfl ?_
      refine z_bipush (pc2 := 37) rfl rfl (by decide) ?_
      refine z_icmp_ne (t := 54) (pc2 := 40) rfl rfl rfl (by omega) (by omega) (fun c6 => ?_) (fun c6 => ?_)
      ·
        refine z_aload_n (pc2 := 55) rfl rfl rfl ?_
        refine z_iload_n (pc2 := 56) rfl rfl rfl ?_
        refine z_iload_n (pc2 := 57) rfl rfl rfl ?_
        refine z_iload_n (pc2 := 58) rfl rfl rfl ?_
        refine z_callS (y2 := 72) (as := [_, _]) (rest := [_, _]) (pc2 := 61) rfl rfl rfl rfl ?_
        refine c_Reading_codeOf (by omega) (by omega) (fun w7 w7a w7b w7c => ?_)
        show zB _ _ _ _ _ _ [_, _, _] _ _
        refine z_iconst (pc2 := 62) rfl rfl ?_
        refine z_iconst (pc2 := 63) rfl rfl ?_
        refine z_callV (y2 := 70) (as := [_, _, _, _]) (rest := []) (pc2 := 66) rfl rfl rfl rfl t5 rfl ?_
        refine c_Reading_found (un := un) (c := c) hn hC (by omega) (by omega) (by omega) (by omega) (by omega) (by omega) hc5 htk (by unfold zTw; omega) (fun I8 f8 h8 t8 => ?_)
        show zB _ _ _ _ _ _ [_] _ _
        refine z_iret rfl rfl ?_
        exact hK _ _ f8 (by omega) (fun _ => ⟨h8, t8⟩)
      ·
        refine z_aload_n (pc2 := 41) rfl rfl rfl ?_
        refine z_getP (pc2 := 44) rfl rfl rfl rfl t5 ?_
        intro p9 p9e p9k
        clear p9k; replace p9e : p9 = some fo := by rw [p9e]; first | exact hfo5 | exact Eq.symm hfo5 | (simp [zU]; first | done | exact hfo5 | exact Eq.symm hfo5 | omega)
        subst p9e
        refine z_iconst (pc2 := 45) rfl rfl ?_
        refine z_callV (y2 := 37) (as := [_]) (rest := []) (pc2 := 48) rfl rfl rfl rfl tfo rfl ?_
        refine z_inl ?_
        refine z_lv (lv2 := [(0, _), (1, _)]) ⟨rfl, rfl, trivial⟩ ?_
        refine z_iload_n (pc2 := 1) rfl rfl rfl ?_
        refine z_if_lt (t := 16) (pc2 := 4) rfl rfl rfl (by omega) (fun c10 => by exfalso; omega) (fun c10 => ?_)
        refine z_iload_n (pc2 := 5) rfl rfl rfl ?_
        refine z_aload_n (pc2 := 6) rfl rfl rfl ?_
        refine z_getI (pc2 := 9) 0 rfl rfl rfl rfl rfl tfo ?_
        intro v11 e11 r11 k11
        replace k11 : un = v11 := Eq.symm k11
        subst k11
        refine z_icmp_ge (t := 16) (pc2 := 12) rfl rfl rfl (by omega) (by omega) (fun c12 => ?_) (fun c12 => ?_)
        ·
          refine z_iconst (pc2 := 17) rfl rfl ?_
          refine z_zret rfl rfl (by omega) ?_
          show zB _ _ _ _ _ _ [_] _ _
          refine z_if_ne (t := 54) (pc2 := 51) rfl rfl rfl (by omega) (fun c13 => by exfalso; omega) (fun c13 => ?_)
          refine z_bipush (pc2 := 53) rfl rfl (by decide) ?_
          refine z_iret rfl rfl ?_
          exact hK _ _ zRdf_rf (by omega) (fun h => by exfalso; omega)
        ·
          refine z_iconst (pc2 := 13) rfl rfl ?_
          refine z_goto (pc2 := 17) rfl rfl ?_
          refine z_zret rfl rfl (by omega) ?_
          show zB _ _ _ _ _ _ [_] _ _
          refine z_if_ne (t := 54) (pc2 := 51) rfl rfl rfl (by omega) (fun c14 => ?_) (fun c14 => by exfalso; omega)
          refine z_aload_n (pc2 := 55) rfl rfl rfl ?_
          refine z_iload_n (pc2 := 56) rfl rfl rfl ?_
          refine z_iload_n (pc2 := 57) rfl rfl rfl ?_
          refine z_iload_n (pc2 := 58) rfl rfl rfl ?_
          refine z_callS (y2 := 72) (as := [_, _]) (rest := [_, _]) (pc2 := 61) rfl rfl rfl rfl ?_
          refine c_Reading_codeOf (by omega) (by omega) (fun w15 w15a w15b w15c => ?_)
          show zB _ _ _ _ _ _ [_, _, _] _ _
          refine z_iconst (pc2 := 62) rfl rfl ?_
          refine z_iconst (pc2 := 63) rfl rfl ?_
          refine z_callV (y2 := 70) (as := [_, _, _, _]) (rest := []) (pc2 := 66) rfl rfl rfl rfl t5 rfl ?_
          refine c_Reading_found (un := un) (c := c) hn hC (by omega) (by omega) (by omega) (by omega) (by omega) (by omega) hc5 htk (by unfold zTw; omega) (fun I16 f16 h16 t16 => ?_)
          show zB _ _ _ _ _ _ [_] _ _
          refine z_iret rfl rfl ?_
          exact hK _ _ f16 (by omega) (fun _ => ⟨h16, t16⟩)
    ·
      refine z_aload_n (pc2 := 29) rfl rfl rfl ?_
      refine z_iload_n (pc2 := 30) rfl rfl rfl ?_
      refine z_callV (y2 := 67) (as := [_]) (rest := []) (pc2 := 33) rfl rfl rfl rfl t5 rfl ?_
      refine c_Reading_readLetterAt (c := c) hn hC (by omega) (by omega) (by omega) (by omega) hsg hfo5 tsg sgl tfo fol fo9 hc5 htk (by omega) (fun w17 I17 f17 b17 p17 => ?_)
      show zB _ _ _ _ _ _ [_] _ _
      refine z_iret rfl rfl ?_
      exact hK _ _ f17 (by omega) p17
  ·
    refine z_aload_n (pc2 := 14) rfl rfl rfl ?_
    refine z_iload_n (pc2 := 15) rfl rfl rfl ?_
    refine z_callV (y2 := 66) (as := [_]) (rest := []) (pc2 := 18) rfl rfl rfl rfl t5 rfl ?_
    refine c_Reading_readStackAt (c := c) hn hC (by omega) (by omega) (by omega) (by omega) hsg hfo5 tsg sgl tfo fol fo9 hc5 htk (by omega) (fun w18 I18 f18 b18 p18 => ?_)
    show zB _ _ _ _ _ _ [_] _ _
    refine z_iret rfl rfl ?_
    exact hK _ _ f18 (by omega) p18
set_option maxHeartbeats 8000000 in
theorem cl_Reading_readAll {L : Nat} {xs : Nat → Int32} {n sl : Nat} {T : Nat → zT} {I : Nat → Nat → Int} {P : Nat → Nat → Option Nat} {G : Nat → Nat → Int} {K : List zV → zH → Prop} {sm un : Int} {fo sg : Nat} (hn : 90 ≤ n) (hC : ∀ a, 1 ≤ a → a ≤ 55 → T a = zFixC a) (hsm : 0 ≤ sm ∧ sm ≤ 40) (hun : 0 ≤ un ∧ un ≤ 24) (hsg : P 5 5 = some sg) (hfo5 : P 5 4 = some fo) (tsg : T sg = (2, 0, [sm, 25])) (sgl : sg ≤ n) (tfo : T fo = (1, 3, [un])) (fol : fo ≤ n) (fo9 : 91 ≤ fo) (hK : ∀ e I2, zRdf I I2 → (-23 ≤ e ∧ e ≤ 0) → (e = 0 → zTkn un (I2 5 3) I2) → K [.inl e] (n, sl, T, I2, P, G)) (m : Nat) : ∀ (I2 : Nat → Nat → Int), ∀ (a c : Int), I2 5 3 = c → 0 ≤ a ∧ a ≤ 42 → 0 ≤ c ∧ c ≤ 40 → zRdf I I2 → zTkn un c I2 → (42 - a).toNat < m → zB zMd L xs 64 20 [(0, .inr (.inl (some 5))), (1, .inr (.inl (some sg))), (4, .inl a)] [] (n, sl, T, I2, P, G) K := by
  have t5 : T 5 = (1, 7, [1]) := hC 5 (by decide) (by decide)
  induction m with
  | zero => intro I2 a c hc5 ha hc hI2 htk hm; omega
  | succ m ih =>
    intro I2 a c hc5 ha hc hI2 htk hm
    refine z_iload (pc2 := 22) rfl rfl rfl ?_
    refine z_aload_n (pc2 := 23) rfl rfl rfl ?_
    refine z_alen (pc2 := 24) rfl rfl tsg rfl (by omega) ?_
    refine z_icmp_ge (t := 58) (pc2 := 27) rfl rfl rfl (by omega) (by omega) (fun c1 => ?_) (fun c1 => ?_)
    ·
      refine z_iconst (pc2 := 59) rfl rfl ?_
      refine z_iret rfl rfl ?_
      exact hK _ _ hI2 (by omega) (fun _ => by rw [hc5]; exact htk)
    ·
      refine z_aload_n (pc2 := 28) rfl rfl rfl ?_
      refine z_getI (pc2 := 31) 0 rfl rfl rfl rfl rfl t5 ?_
      intro v2 e2 r2 k2
      replace k2 : (0 : Int) ≤ v2 ∧ v2 ≤ 40 := k2
      replace e2 : c = v2 := by rw [e2]; first | exact hc5 | exact Eq.symm hc5 | (simp [zU]; first | done | exact hc5 | exact Eq.symm hc5 | omega)
      subst e2
      refine z_bipush (pc2 := 33) rfl rfl (by decide) ?_
      refine z_icmp_ge (t := 58) (pc2 := 36) rfl rfl rfl (by omega) (by omega) (fun c3 => ?_) (fun c3 => ?_)
      ·
        refine z_iconst (pc2 := 59) rfl rfl ?_
        refine z_iret rfl rfl ?_
        exact hK _ _ hI2 (by omega) (fun _ => by rw [hc5]; exact htk)
      ·
        refine z_aload_n (pc2 := 37) rfl rfl rfl ?_
        refine z_iload (pc2 := 39) rfl rfl rfl ?_
        refine z_callV (y2 := 65) (as := [_]) (rest := []) (pc2 := 42) rfl rfl rfl rfl t5 rfl ?_
        refine c_Reading_readAt (c := c) hn hC (by omega) (by omega) (by omega) (by omega) hsg hfo5 tsg sgl tfo fol fo9 hc5 htk (by omega) (fun w4 I4 f4 b4 p4 => ?_)
        show zB _ _ _ _ _ _ [_] _ _
        refine z_istore_n (lv2 := [(3, _), (0, _), (1, _), (4, _)]) (pc2 := 43) rfl rfl rfl rfl ?_
        refine z_iload_n (pc2 := 44) rfl rfl rfl ?_
        refine z_if_gt (t := 49) (pc2 := 47) rfl rfl rfl (by omega) (fun c5 => ?_) (fun c5 => ?_)
        ·
          refine z_iload (pc2 := 51) rfl rfl rfl ?_
          refine z_iload_n (pc2 := 52) rfl rfl rfl ?_
          refine z_iadd (pc2 := 53) rfl rfl ?_
          refine z_istore (lv2 := [(4, _), (3, _), (0, _), (1, _)]) (pc2 := 55) rfl rfl rfl rfl ?_
          refine z_goto (pc2 := 20) rfl rfl ?_
          refine z_lv (lv2 := [(0, _), (1, _), (4, _)]) ⟨rfl, rfl, rfl, trivial⟩ ?_
          exact ih _ _ _ (p4 (by omega)).1 (by omega) (by omega) (zRdf_tr hI2 f4) (p4 (by omega)).2 (by omega)
        ·
          refine z_iload_n (pc2 := 48) rfl rfl rfl ?_
          refine z_iret rfl rfl ?_
          exact hK _ _ (zRdf_tr hI2 f4) (by omega) (fun h => by exfalso; omega)
set_option maxHeartbeats 8000000 in
theorem c_Reading_readAll {L : Nat} {xs : Nat → Int32} {n sl : Nat} {T : Nat → zT} {I : Nat → Nat → Int} {P : Nat → Nat → Option Nat} {G : Nat → Nat → Int} {K : List zV → zH → Prop} {sm un : Int} {fo sg : Nat} (hn : 90 ≤ n) (hC : ∀ a, 1 ≤ a → a ≤ 55 → T a = zFixC a) (hsm : 0 ≤ sm ∧ sm ≤ 40) (hun : 0 ≤ un ∧ un ≤ 24) (tsg : T sg = (2, 0, [sm, 25])) (sgl : sg ≤ n) (sg9 : 91 ≤ sg) (tfo : T fo = (1, 3, [un])) (fol : fo ≤ n) (fo9 : 91 ≤ fo) (hK : ∀ e I2, zRdf I I2 → (-23 ≤ e ∧ e ≤ 0) → (e = 0 → zTkn un (I2 5 3) I2) → K [.inl e] (n, sl, T, I2, zU (zU P 5 5 (some sg)) 5 4 (some fo), G)) : zX zMd L xs 64 [.inr (.inl (some 5)), .inr (.inl (some sg)), .inr (.inl (some fo))] (n, sl, T, I, P, G) K := by
  have t5 : T 5 = (1, 7, [1]) := hC 5 (by decide) (by decide)
  refine z_inl ?_
  refine z_lv (lv2 := [(0, _), (1, _), (2, _)]) ⟨rfl, rfl, rfl, trivial⟩ ?_
  refine z_aload_n (pc2 := 1) rfl rfl rfl ?_
  refine z_aload_n (pc2 := 2) rfl rfl rfl ?_
  refine z_putP (pc2 := 5) rfl rfl rfl rfl (by first | exact z_fitO _ _ | exact z_fitA _ _) rfl t5 (Or.inr ⟨_, rfl, by omega, _, tsg, by omega⟩) ?_
  refine z_aload_n (pc2 := 6) rfl rfl rfl ?_
  refine z_aload_n (pc2 := 7) rfl rfl rfl ?_
  refine z_putP (pc2 := 10) rfl rfl rfl rfl (by first | exact z_fitO _ _ | exact z_fitA _ _) rfl t5 (Or.inr ⟨_, rfl, by omega, _, tfo, by omega⟩) ?_
  refine z_aload_n (pc2 := 11) rfl rfl rfl ?_
  refine z_iconst (pc2 := 12) rfl rfl ?_
  refine z_putI (pc2 := 15) rfl rfl rfl rfl rfl rfl t5 (by omega) (by show (0 : Int) ≤ _ ∧ _ ≤ 40; omega) ?_
  refine z_iconst (pc2 := 16) rfl rfl ?_
  refine z_istore_n (lv2 := [(3, _), (0, _), (1, _), (2, _)]) (pc2 := 17) rfl rfl rfl rfl ?_
  refine z_iconst (pc2 := 18) rfl rfl ?_
  refine z_istore (lv2 := [(4, _), (3, _), (0, _), (1, _), (2, _)]) (pc2 := 20) rfl rfl rfl rfl ?_
  refine z_lv (lv2 := [(0, _), (1, _), (4, _)]) ⟨rfl, rfl, rfl, trivial⟩ ?_
  exact cl_Reading_readAll hn hC (by omega) (by omega) (by simp [zU]) (by simp [zU]) tsg sgl tfo fol fo9 (fun e I9 h1 h2 h3 => hK e I9 (zRdf_tr zRdf_c h1) h2 h3) _ _ _ 0 (by simp [zU]) (by omega) (by omega) zRdf_rf zTkn_0 (Nat.lt_succ_self _)
