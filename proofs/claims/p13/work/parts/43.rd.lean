/-! the reference: sorts as numbers -/
set_option maxHeartbeats 8000000 in
theorem m_sort {L : Nat} {xs : Nat → Int32} {n sl : Nat} {T : Nat → zT} {I : Nat → Nat → Int} {P : Nat → Nat → Option Nat} {G : Nat → Nat → Int} {K : List zV → zH → Prop} {k f c : Int}  (hk : 0 ≤ k ∧ k ≤ 4) (hf : 0 ≤ f ∧ f ≤ 3) (hc : 0 ≤ c ∧ c ≤ 23) (hc1 : k = 1 → c ≤ 5) (hc4 : k = 4 → c ≤ 3) (hK : ∀ e, zR e → zGd e → K [.inl e] (n, sl, T, I, P, G)) : zX zMd L xs 170 [.inl k, .inl f, .inl c] (n, sl, T, I, P, G) K := by
  refine z_inl ?_
  refine z_lv (lv2 := [(0, _), (1, _), (2, _)]) ⟨rfl, rfl, rfl, trivial⟩ ?_
  refine z_iload_n (pc2 := 1) rfl rfl rfl ?_
  refine z_iconst (pc2 := 2) rfl rfl ?_
  refine z_iadd (pc2 := 3) rfl rfl ?_
  refine z_iload_n (pc2 := 4) rfl rfl rfl ?_
  refine z_iconst (pc2 := 5) rfl rfl ?_
  refine z_icmp_ne (t := 12) (pc2 := 8) rfl rfl rfl (by omega) (by omega) (fun c1 => ?_) (fun c1 => ?_)
  ·
    refine z_iconst (pc2 := 13) rfl rfl ?_
    refine z_iload_n (pc2 := 14) rfl rfl rfl ?_
    refine z_iload_n (pc2 := 15) rfl rfl rfl ?_
    refine z_callS (y2 := 169) (as := [_, _, _]) (rest := [_]) (pc2 := 18) rfl rfl rfl rfl ?_
    refine z_inl ?_
    refine z_lv (lv2 := [(0, _), (1, _), (2, _)]) ⟨rfl, rfl, rfl, trivial⟩ ?_
    refine z_iload_n (pc2 := 1) rfl rfl rfl ?_
    refine z_iload_n (pc2 := 2) rfl rfl rfl ?_
    refine z_iconst (pc2 := 3) rfl rfl ?_
    refine z_shl_1 (pc2 := 4) rfl rfl ?_
    refine z_or_1 (pc2 := 5) rfl rfl (by omega) ?_
    refine z_iload_n (pc2 := 6) rfl rfl rfl ?_
    refine z_iconst (pc2 := 7) rfl rfl ?_
    refine z_shl_3 (pc2 := 8) rfl rfl ?_
    refine z_or_3 (pc2 := 9) rfl rfl (by omega) ?_
    refine z_iret rfl rfl ?_
    show zB _ _ _ _ _ _ [_, _] _ _
    refine z_iconst (pc2 := 19) rfl rfl ?_
    refine z_shl_3 (pc2 := 20) rfl rfl ?_
    refine z_or_3 (pc2 := 21) rfl rfl (by omega) ?_
    refine z_ldc (268435456) (pc2 := 23) rfl rfl rfl ?_
    refine z_or_big (pc2 := 24) rfl rfl (by omega) ?_
    refine z_iret rfl rfl ?_
    exact hK _ (by omega) (by unfold zGd; refine ⟨⟨?_, ?_⟩, ⟨?_, ?_⟩, ?_⟩ <;> omega)
  ·
    refine z_iconst (pc2 := 9) rfl rfl ?_
    refine z_goto (pc2 := 13) rfl rfl ?_
    refine z_iload_n (pc2 := 14) rfl rfl rfl ?_
    refine z_iload_n (pc2 := 15) rfl rfl rfl ?_
    refine z_callS (y2 := 169) (as := [_, _, _]) (rest := [_]) (pc2 := 18) rfl rfl rfl rfl ?_
    refine z_inl ?_
    refine z_lv (lv2 := [(0, _), (1, _), (2, _)]) ⟨rfl, rfl, rfl, trivial⟩ ?_
    refine z_iload_n (pc2 := 1) rfl rfl rfl ?_
    refine z_iload_n (pc2 := 2) rfl rfl rfl ?_
    refine z_iconst (pc2 := 3) rfl rfl ?_
    refine z_shl_1 (pc2 := 4) rfl rfl ?_
    refine z_or_1 (pc2 := 5) rfl rfl (by omega) ?_
    refine z_iload_n (pc2 := 6) rfl rfl rfl ?_
    refine z_iconst (pc2 := 7) rfl rfl ?_
    refine z_shl_3 (pc2 := 8) rfl rfl ?_
    refine z_or_3 (pc2 := 9) rfl rfl (by omega) ?_
    refine z_iret rfl rfl ?_
    show zB _ _ _ _ _ _ [_, _] _ _
    refine z_iconst (pc2 := 19) rfl rfl ?_
    refine z_shl_3 (pc2 := 20) rfl rfl ?_
    refine z_or_3 (pc2 := 21) rfl rfl (by omega) ?_
    refine z_ldc (268435456) (pc2 := 23) rfl rfl rfl ?_
    refine z_or_big (pc2 := 24) rfl rfl (by omega) ?_
    refine z_iret rfl rfl ?_
    exact hK _ (by omega) (by unfold zGd; refine ⟨⟨?_, ?_⟩, ⟨?_, ?_⟩, ?_⟩ <;> omega)
set_option maxHeartbeats 8000000 in
theorem m_stacked {L : Nat} {xs : Nat → Int32} {n sl : Nat} {T : Nat → zT} {I : Nat → Nat → Int} {P : Nat → Nat → Option Nat} {G : Nat → Nat → Int} {K : List zV → zH → Prop} {s t : Int}  (hs : zR s) (ht : zR t) (hg : zGd s) (hg2 : zGd t) (hK : ∀ e, zR e → zGd e → K [.inl e] (n, sl, T, I, P, G)) : zX zMd L xs 171 [.inl s, .inl t] (n, sl, T, I, P, G) K := by
  have hg' := hg
  unfold zGd at hg'
  have hg2' := hg2
  unfold zGd at hg2'
  refine z_inl ?_
  refine z_lv (lv2 := [(0, _), (1, _)]) ⟨rfl, rfl, trivial⟩ ?_
  refine z_bipush (pc2 := 2) rfl rfl (by decide) ?_
  refine z_iload_n (pc2 := 3) rfl rfl rfl ?_
  refine z_iconst (pc2 := 4) rfl rfl ?_
  refine z_shr_3 (pc2 := 5) rfl rfl (by omega) ?_
  refine z_sipush (pc2 := 8) rfl rfl (by decide) ?_
  refine z_and_255 (pc2 := 9) rfl rfl ?_
  refine z_iconst (pc2 := 10) rfl rfl ?_
  refine z_shl_3 (pc2 := 11) rfl rfl ?_
  refine z_or_3 (pc2 := 12) rfl rfl (by omega) ?_
  refine z_iload_n (pc2 := 13) rfl rfl rfl ?_
  refine z_iconst (pc2 := 14) rfl rfl ?_
  refine z_shr_3 (pc2 := 15) rfl rfl (by omega) ?_
  refine z_sipush (pc2 := 18) rfl rfl (by decide) ?_
  refine z_and_255 (pc2 := 19) rfl rfl ?_
  refine z_bipush (pc2 := 21) rfl rfl (by decide) ?_
  refine z_shl_11 (pc2 := 22) rfl rfl ?_
  refine z_or_11 (pc2 := 23) rfl rfl (by omega) ?_
  refine z_ldc (268435456) (pc2 := 25) rfl rfl rfl ?_
  refine z_or_big (pc2 := 26) rfl rfl (by omega) ?_
  refine z_iret rfl rfl ?_
  exact hK _ (by omega) (by unfold zGd; refine ⟨⟨?_, ?_⟩, ⟨?_, ?_⟩, ?_⟩ <;> omega)
set_option maxHeartbeats 8000000 in
theorem m_withAdded {L : Nat} {xs : Nat → Int32} {n sl : Nat} {T : Nat → zT} {I : Nat → Nat → Int} {P : Nat → Nat → Option Nat} {G : Nat → Nat → Int} {K : List zV → zH → Prop} {s v : Int}  (hs : zR s) (hv : -512 ≤ v ∧ v ≤ 3000) (hg : zGd s) (hK : ∀ e, zR e → zGd e → K [.inl e] (n, sl, T, I, P, G)) : zX zMd L xs 176 [.inl s, .inl v] (n, sl, T, I, P, G) K := by
  have hg' := hg
  unfold zGd at hg'
  refine z_inl ?_
  refine z_lv (lv2 := [(0, _), (1, _)]) ⟨rfl, rfl, trivial⟩ ?_
  refine z_iload_n (pc2 := 1) rfl rfl rfl ?_
  refine z_ldc (524287) (pc2 := 3) rfl rfl rfl ?_
  refine z_and_524287 (pc2 := 4) rfl rfl ?_
  refine z_iload_n (pc2 := 5) rfl rfl rfl ?_
  refine z_sipush (pc2 := 8) rfl rfl (by decide) ?_
  refine z_iadd (pc2 := 9) rfl rfl ?_
  refine z_bipush (pc2 := 11) rfl rfl (by decide) ?_
  refine z_shl_19 (pc2 := 12) rfl rfl ?_
  refine z_or_19 (pc2 := 13) rfl rfl (by omega) ?_
  refine z_iret rfl rfl ?_
  exact hK _ (by omega) (by unfold zGd; refine ⟨⟨?_, ?_⟩, ⟨?_, ?_⟩, ?_⟩ <;> omega)
set_option maxHeartbeats 8000000 in
theorem m_isLetter {L : Nat} {xs : Nat → Int32} {n sl : Nat} {T : Nat → zT} {I : Nat → Nat → Int} {P : Nat → Nat → Option Nat} {G : Nat → Nat → Int} {K : List zV → zH → Prop} {s : Int}  (hs : zR s) (hK : ∀ e, 0 ≤ e ∧ e ≤ 1 → (e = 1 → s % 8 = 1 ∨ s % 8 = 2) → (e = 0 → s % 8 ≠ 1 ∧ s % 8 ≠ 2) → K [.inl e] (n, sl, T, I, P, G)) : zX zMd L xs 180 [.inl s] (n, sl, T, I, P, G) K := by
  refine z_inl ?_
  refine z_lv (lv2 := [(0, _)]) ⟨rfl, trivial⟩ ?_
  refine z_iload_n (pc2 := 1) rfl rfl rfl ?_
  refine z_callS (y2 := 172) (as := [_]) (rest := []) (pc2 := 4) rfl rfl rfl rfl ?_
  refine z_inl ?_
  refine z_lv (lv2 := [(0, _)]) ⟨rfl, trivial⟩ ?_
  refine z_iload_n (pc2 := 1) rfl rfl rfl ?_
  refine z_bipush (pc2 := 3) rfl rfl (by decide) ?_
  refine z_and_7 (pc2 := 4) rfl rfl ?_
  refine z_iconst (pc2 := 5) rfl rfl ?_
  refine z_isub (pc2 := 6) rfl rfl ?_
  refine z_iret rfl rfl ?_
  show zB _ _ _ _ _ _ [_] _ _
  refine z_if_eq (t := 15) (pc2 := 7) rfl rfl rfl (by omega) (fun c2 => ?_) (fun c2 => ?_)
  ·
    refine z_iconst (pc2 := 16) rfl rfl ?_
    refine z_goto (pc2 := 20) rfl rfl ?_
    refine z_zret rfl rfl (by omega) ?_
    exact hK _ (by omega) (by omega) (by omega)
  ·
    refine z_iload_n (pc2 := 8) rfl rfl rfl ?_
    refine z_callS (y2 := 172) (as := [_]) (rest := []) (pc2 := 11) rfl rfl rfl rfl ?_
    refine z_inl ?_
    refine z_lv (lv2 := [(0, _)]) ⟨rfl, trivial⟩ ?_
    refine z_iload_n (pc2 := 1) rfl rfl rfl ?_
    refine z_bipush (pc2 := 3) rfl rfl (by decide) ?_
    refine z_and_7 (pc2 := 4) rfl rfl ?_
    refine z_iconst (pc2 := 5) rfl rfl ?_
    refine z_isub (pc2 := 6) rfl rfl ?_
    refine z_iret rfl rfl ?_
    show zB _ _ _ _ _ _ [_] _ _
    refine z_iconst (pc2 := 12) rfl rfl ?_
    refine z_icmp_ne (t := 19) (pc2 := 15) rfl rfl rfl (by omega) (by omega) (fun c4 => ?_) (fun c4 => ?_)
    ·
      refine z_iconst (pc2 := 20) rfl rfl ?_
      refine z_zret rfl rfl (by omega) ?_
      exact hK _ (by omega) (by omega) (by omega)
    ·
      refine z_iconst (pc2 := 16) rfl rfl ?_
      refine z_goto (pc2 := 20) rfl rfl ?_
      refine z_zret rfl rfl (by omega) ?_
      exact hK _ (by omega) (by omega) (by omega)
set_option maxHeartbeats 8000000 in
theorem m_isStretched {L : Nat} {xs : Nat → Int32} {n sl : Nat} {T : Nat → zT} {I : Nat → Nat → Int} {P : Nat → Nat → Option Nat} {G : Nat → Nat → Int} {K : List zV → zH → Prop} {s : Int}  (hs : zR s) (hK : ∀ e, 0 ≤ e ∧ e ≤ 1 → (e = 1 → s % 8 = 3 ∨ s % 8 = 4) → (e = 0 → s % 8 ≠ 3 ∧ s % 8 ≠ 4) → K [.inl e] (n, sl, T, I, P, G)) : zX zMd L xs 181 [.inl s] (n, sl, T, I, P, G) K := by
  refine z_inl ?_
  refine z_lv (lv2 := [(0, _)]) ⟨rfl, trivial⟩ ?_
  refine z_iload_n (pc2 := 1) rfl rfl rfl ?_
  refine z_callS (y2 := 172) (as := [_]) (rest := []) (pc2 := 4) rfl rfl rfl rfl ?_
  refine z_inl ?_
  refine z_lv (lv2 := [(0, _)]) ⟨rfl, trivial⟩ ?_
  refine z_iload_n (pc2 := 1) rfl rfl rfl ?_
  refine z_bipush (pc2 := 3) rfl rfl (by decide) ?_
  refine z_and_7 (pc2 := 4) rfl rfl ?_
  refine z_iconst (pc2 := 5) rfl rfl ?_
  refine z_isub (pc2 := 6) rfl rfl ?_
  refine z_iret rfl rfl ?_
  show zB _ _ _ _ _ _ [_] _ _
  refine z_iconst (pc2 := 5) rfl rfl ?_
  refine z_icmp_eq (t := 16) (pc2 := 8) rfl rfl rfl (by omega) (by omega) (fun c2 => ?_) (fun c2 => ?_)
  ·
    refine z_iconst (pc2 := 17) rfl rfl ?_
    refine z_goto (pc2 := 21) rfl rfl ?_
    refine z_zret rfl rfl (by omega) ?_
    exact hK _ (by omega) (by omega) (by omega)
  ·
    refine z_iload_n (pc2 := 9) rfl rfl rfl ?_
    refine z_callS (y2 := 172) (as := [_]) (rest := []) (pc2 := 12) rfl rfl rfl rfl ?_
    refine z_inl ?_
    refine z_lv (lv2 := [(0, _)]) ⟨rfl, trivial⟩ ?_
    refine z_iload_n (pc2 := 1) rfl rfl rfl ?_
    refine z_bipush (pc2 := 3) rfl rfl (by decide) ?_
    refine z_and_7 (pc2 := 4) rfl rfl ?_
    refine z_iconst (pc2 := 5) rfl rfl ?_
    refine z_isub (pc2 := 6) rfl rfl ?_
    refine z_iret rfl rfl ?_
    show zB _ _ _ _ _ _ [_] _ _
    refine z_iconst (pc2 := 13) rfl rfl ?_
    refine z_icmp_ne (t := 20) (pc2 := 16) rfl rfl rfl (by omega) (by omega) (fun c4 => ?_) (fun c4 => ?_)
    ·
      refine z_iconst (pc2 := 21) rfl rfl ?_
      refine z_zret rfl rfl (by omega) ?_
      exact hK _ (by omega) (by omega) (by omega)
    ·
      refine z_iconst (pc2 := 17) rfl rfl ?_
      refine z_goto (pc2 := 21) rfl rfl ?_
      refine z_zret rfl rfl (by omega) ?_
      exact hK _ (by omega) (by omega) (by omega)
set_option maxHeartbeats 8000000 in
theorem m_boxOfPart {L : Nat} {xs : Nat → Int32} {n sl : Nat} {T : Nat → zT} {I : Nat → Nat → Int} {P : Nat → Nat → Option Nat} {G : Nat → Nat → Int} {K : List zV → zH → Prop} {p : Int}  (hp0 : 0 ≤ p ∧ p ≤ 255) (hp1 : zPt p) (hK : ∀ e, 0 ≤ e ∧ e ≤ 143 → K [.inl e] (n, sl, T, I, P, G)) : zX zMd L xs 183 [.inl p] (n, sl, T, I, P, G) K := by
  refine z_inl ?_
  refine z_lv (lv2 := [(0, _)]) ⟨rfl, trivial⟩ ?_
  refine z_iload_n (pc2 := 1) rfl rfl rfl ?_
  refine z_callS (y2 := 179) (as := [_]) (rest := []) (pc2 := 4) rfl rfl rfl rfl ?_
  refine z_inl ?_
  refine z_lv (lv2 := [(0, _)]) ⟨rfl, trivial⟩ ?_
  refine z_iload_n (pc2 := 1) rfl rfl rfl ?_
  refine z_iconst (pc2 := 2) rfl rfl ?_
  refine z_and_1 (pc2 := 3) rfl rfl ?_
  refine z_iconst (pc2 := 4) rfl rfl ?_
  refine z_icmp_ne (t := 11) (pc2 := 7) rfl rfl rfl (by omega) (by omega) (fun c2 => ?_) (fun c2 => ?_)
  ·
    refine z_iconst (pc2 := 12) rfl rfl ?_
    refine z_zret rfl rfl (by omega) ?_
    show zB _ _ _ _ _ _ [_] _ _
    refine z_if_eq (t := 11) (pc2 := 7) rfl rfl rfl (by omega) (fun c3 => ?_) (fun c3 => by exfalso; omega)
    refine z_iconst (pc2 := 12) rfl rfl ?_
    refine z_iload_n (pc2 := 13) rfl rfl rfl ?_
    refine z_callS (y2 := 177) (as := [_]) (rest := [_]) (pc2 := 16) rfl rfl rfl rfl ?_
    refine z_inl ?_
    refine z_lv (lv2 := [(0, _)]) ⟨rfl, trivial⟩ ?_
    refine z_iload_n (pc2 := 1) rfl rfl rfl ?_
    refine z_iconst (pc2 := 2) rfl rfl ?_
    refine z_shr_1 (pc2 := 3) rfl rfl (by omega) ?_
    refine z_iconst (pc2 := 4) rfl rfl ?_
    refine z_and_3 (pc2 := 5) rfl rfl ?_
    refine z_iret rfl rfl ?_
    show zB _ _ _ _ _ _ [_, _] _ _
    refine z_iload_n (pc2 := 17) rfl rfl rfl ?_
    refine z_callS (y2 := 178) (as := [_]) (rest := [_, _]) (pc2 := 20) rfl rfl rfl rfl ?_
    refine z_inl ?_
    refine z_lv (lv2 := [(0, _)]) ⟨rfl, trivial⟩ ?_
    refine z_iload_n (pc2 := 1) rfl rfl rfl ?_
    refine z_iconst (pc2 := 2) rfl rfl ?_
    refine z_shr_3 (pc2 := 3) rfl rfl (by omega) ?_
    refine z_iret rfl rfl ?_
    show zB _ _ _ _ _ _ [_, _, _] _ _
    refine z_callS (y2 := 182) (as := [_, _, _]) (rest := []) (pc2 := 23) rfl rfl rfl rfl ?_
    refine m_boxOf (by omega) (by omega) (by omega) (by omega) (by omega) (by omega) (fun w7 w7h => ?_)
    have w7b : 0 ≤ w7 ∧ w7 ≤ 143 := by omega
    show zB _ _ _ _ _ _ [_] _ _
    refine z_iret rfl rfl ?_
    exact hK _ (by omega)
  ·
    refine z_iconst (pc2 := 8) rfl rfl ?_
    refine z_goto (pc2 := 12) rfl rfl ?_
    refine z_zret rfl rfl (by omega) ?_
    show zB _ _ _ _ _ _ [_] _ _
    refine z_if_eq (t := 11) (pc2 := 7) rfl rfl rfl (by omega) (fun c8 => by exfalso; omega) (fun c8 => ?_)
    refine z_iconst (pc2 := 8) rfl rfl ?_
    refine z_goto (pc2 := 12) rfl rfl ?_
    refine z_iload_n (pc2 := 13) rfl rfl rfl ?_
    refine z_callS (y2 := 177) (as := [_]) (rest := [_]) (pc2 := 16) rfl rfl rfl rfl ?_
    refine z_inl ?_
    refine z_lv (lv2 := [(0, _)]) ⟨rfl, trivial⟩ ?_
    refine z_iload_n (pc2 := 1) rfl rfl rfl ?_
    refine z_iconst (pc2 := 2) rfl rfl ?_
    refine z_shr_1 (pc2 := 3) rfl rfl (by omega) ?_
    refine z_iconst (pc2 := 4) rfl rfl ?_
    refine z_and_3 (pc2 := 5) rfl rfl ?_
    refine z_iret rfl rfl ?_
    show zB _ _ _ _ _ _ [_, _] _ _
    refine z_iload_n (pc2 := 17) rfl rfl rfl ?_
    refine z_callS (y2 := 178) (as := [_]) (rest := [_, _]) (pc2 := 20) rfl rfl rfl rfl ?_
    refine z_inl ?_
    refine z_lv (lv2 := [(0, _)]) ⟨rfl, trivial⟩ ?_
    refine z_iload_n (pc2 := 1) rfl rfl rfl ?_
    refine z_iconst (pc2 := 2) rfl rfl ?_
    refine z_shr_3 (pc2 := 3) rfl rfl (by omega) ?_
    refine z_iret rfl rfl ?_
    show zB _ _ _ _ _ _ [_, _, _] _ _
    refine z_callS (y2 := 182) (as := [_, _, _]) (rest := []) (pc2 := 23) rfl rfl rfl rfl ?_
    refine m_boxOf (by omega) (by omega) (by omega) (by omega) (by omega) (by omega) (fun w12 w12h => ?_)
    have w12b : 0 ≤ w12 ∧ w12 ≤ 143 := by omega
    show zB _ _ _ _ _ _ [_] _ _
    refine z_iret rfl rfl ?_
    exact hK _ (by omega)
set_option maxHeartbeats 8000000 in
theorem m_boxOfSort {L : Nat} {xs : Nat → Int32} {n sl : Nat} {T : Nat → zT} {I : Nat → Nat → Int} {P : Nat → Nat → Option Nat} {G : Nat → Nat → Int} {K : List zV → zH → Prop} {s : Int}  (hs : zR s) (hg : zGd s) (hns : s % 8 ≠ 6) (hK : ∀ e, 0 ≤ e ∧ e ≤ 143 → K [.inl e] (n, sl, T, I, P, G)) : zX zMd L xs 184 [.inl s] (n, sl, T, I, P, G) K := by
  have hg' := hg
  unfold zGd at hg'
  refine z_inl ?_
  refine z_lv (lv2 := [(0, _)]) ⟨rfl, trivial⟩ ?_
  refine z_iload_n (pc2 := 1) rfl rfl rfl ?_
  refine z_callS (y2 := 180) (as := [_]) (rest := []) (pc2 := 4) rfl rfl rfl rfl ?_
  refine m_isLetter (by omega) (fun w1 w1r w1g w1h => ?_)
  show zB _ _ _ _ _ _ [_] _ _
  refine z_if_eq (t := 17) (pc2 := 7) rfl rfl rfl (by omega) (fun c2 => ?_) (fun c2 => ?_)
  ·
    refine z_iload_n (pc2 := 18) rfl rfl rfl ?_
    refine z_callS (y2 := 172) (as := [_]) (rest := []) (pc2 := 21) rfl rfl rfl rfl ?_
    refine z_inl ?_
    refine z_lv (lv2 := [(0, _)]) ⟨rfl, trivial⟩ ?_
    refine z_iload_n (pc2 := 1) rfl rfl rfl ?_
    refine z_bipush (pc2 := 3) rfl rfl (by decide) ?_
    refine z_and_7 (pc2 := 4) rfl rfl ?_
    refine z_iconst (pc2 := 5) rfl rfl ?_
    refine z_isub (pc2 := 6) rfl rfl ?_
    refine z_iret rfl rfl ?_
    show zB _ _ _ _ _ _ [_] _ _
    refine z_iload_n (pc2 := 22) rfl rfl rfl ?_
    refine z_callS (y2 := 173) (as := [_]) (rest := [_]) (pc2 := 25) rfl rfl rfl rfl ?_
    refine z_inl ?_
    refine z_lv (lv2 := [(0, _)]) ⟨rfl, trivial⟩ ?_
    refine z_iload_n (pc2 := 1) rfl rfl rfl ?_
    refine z_iconst (pc2 := 2) rfl rfl ?_
    refine z_shr_3 (pc2 := 3) rfl rfl (by omega) ?_
    refine z_sipush (pc2 := 6) rfl rfl (by decide) ?_
    refine z_and_255 (pc2 := 7) rfl rfl ?_
    refine z_iret rfl rfl ?_
    show zB _ _ _ _ _ _ [_, _] _ _
    refine z_callS (y2 := 177) (as := [_]) (rest := [_]) (pc2 := 28) rfl rfl rfl rfl ?_
    refine z_inl ?_
    refine z_lv (lv2 := [(0, _)]) ⟨rfl, trivial⟩ ?_
    refine z_iload_n (pc2 := 1) rfl rfl rfl ?_
    refine z_iconst (pc2 := 2) rfl rfl ?_
    refine z_shr_1 (pc2 := 3) rfl rfl (by omega) ?_
    refine z_iconst (pc2 := 4) rfl rfl ?_
    refine z_and_3 (pc2 := 5) rfl rfl ?_
    refine z_iret rfl rfl ?_
    show zB _ _ _ _ _ _ [_, _] _ _
    refine z_iload_n (pc2 := 29) rfl rfl rfl ?_
    refine z_callS (y2 := 173) (as := [_]) (rest := [_, _]) (pc2 := 32) rfl rfl rfl rfl ?_
    refine z_inl ?_
    refine z_lv (lv2 := [(0, _)]) ⟨rfl, trivial⟩ ?_
    refine z_iload_n (pc2 := 1) rfl rfl rfl ?_
    refine z_iconst (pc2 := 2) rfl rfl ?_
    refine z_shr_3 (pc2 := 3) rfl rfl (by omega) ?_
    refine z_sipush (pc2 := 6) rfl rfl (by decide) ?_
    refine z_and_255 (pc2 := 7) rfl rfl ?_
    refine z_iret rfl rfl ?_
    show zB _ _ _ _ _ _ [_, _, _] _ _
    refine z_callS (y2 := 178) (as := [_]) (rest := [_, _]) (pc2 := 35) rfl rfl rfl rfl ?_
    refine z_inl ?_
    refine z_lv (lv2 := [(0, _)]) ⟨rfl, trivial⟩ ?_
    refine z_iload_n (pc2 := 1) rfl rfl rfl ?_
    refine z_iconst (pc2 := 2) rfl rfl ?_
    refine z_shr_3 (pc2 := 3) rfl rfl (by omega) ?_
    refine z_iret rfl rfl ?_
    show zB _ _ _ _ _ _ [_, _, _] _ _
    refine z_callS (y2 := 182) (as := [_, _, _]) (rest := []) (pc2 := 38) rfl rfl rfl rfl ?_
    refine m_boxOf (by omega) (by omega) (by omega) (by omega) (by omega) (by omega) (fun w11 w11h => ?_)
    have w11b : 0 ≤ w11 ∧ w11 ≤ 143 := by omega
    show zB _ _ _ _ _ _ [_] _ _
    refine z_iret rfl rfl ?_
    exact hK _ (by omega)
  ·
    refine z_iload_n (pc2 := 8) rfl rfl rfl ?_
    refine z_callS (y2 := 173) (as := [_]) (rest := []) (pc2 := 11) rfl rfl rfl rfl ?_
    refine z_inl ?_
    refine z_lv (lv2 := [(0, _)]) ⟨rfl, trivial⟩ ?_
    refine z_iload_n (pc2 := 1) rfl rfl rfl ?_
    refine z_iconst (pc2 := 2) rfl rfl ?_
    refine z_shr_3 (pc2 := 3) rfl rfl (by omega) ?_
    refine z_sipush (pc2 := 6) rfl rfl (by decide) ?_
    refine z_and_255 (pc2 := 7) rfl rfl ?_
    refine z_iret rfl rfl ?_
    show zB _ _ _ _ _ _ [_] _ _
    refine z_callS (y2 := 183) (as := [_]) (rest := []) (pc2 := 14) rfl rfl rfl rfl ?_
    refine m_boxOfPart (by omega) (by first | assumption | (refine ⟨?_, ?_⟩ <;> omega)) (fun w14 w14r => ?_)
    show zB _ _ _ _ _ _ [_] _ _
    refine z_goto (pc2 := 38) rfl rfl ?_
    refine z_iret rfl rfl ?_
    exact hK _ (by omega)
set_option maxHeartbeats 8000000 in
theorem m_goesBack {L : Nat} {xs : Nat → Int32} {n sl : Nat} {T : Nat → zT} {I : Nat → Nat → Int} {P : Nat → Nat → Option Nat} {G : Nat → Nat → Int} {K : List zV → zH → Prop} {s : Int} (hT : ∀ a, 56 ≤ a → a ≤ 90 → T a = zFix a) (hs : zR s) (hg : zGd s) (hK : ∀ e I2 G2, (1 ≤ e ∧ e ≤ 2) → zFb I I2 → K [.inl e] (n, sl, T, I2, P, G2)) : zX zMd L xs 185 [.inr (.inl (some 56)), .inl s] (n, sl, T, I, P, G) K := by
  have t56 : T 56 = (1, 12, [1]) := hT 56 (by decide) (by decide)
  have t57 : T 57 = (2, 0, [112200, 1]) := hT 57 (by decide) (by decide)
  have hg' := hg
  unfold zGd at hg'
  refine z_inl ?_
  refine z_lv (lv2 := [(0, _), (1, _)]) ⟨rfl, rfl, trivial⟩ ?_
  refine z_iload_n (pc2 := 1) rfl rfl rfl ?_
  refine z_callS (y2 := 172) (as := [_]) (rest := []) (pc2 := 4) rfl rfl rfl rfl ?_
  refine z_inl ?_
  refine z_lv (lv2 := [(0, _)]) ⟨rfl, trivial⟩ ?_
  refine z_iload_n (pc2 := 1) rfl rfl rfl ?_
  refine z_bipush (pc2 := 3) rfl rfl (by decide) ?_
  refine z_and_7 (pc2 := 4) rfl rfl ?_
  refine z_iconst (pc2 := 5) rfl rfl ?_
  refine z_isub (pc2 := 6) rfl rfl ?_
  refine z_iret rfl rfl ?_
  show zB _ _ _ _ _ _ [_] _ _
  refine z_iconst (pc2 := 5) rfl rfl ?_
  refine z_icmp_ne (t := 52) (pc2 := 8) rfl rfl rfl (by omega) (by omega) (fun c2 => ?_) (fun c2 => ?_)
  ·
    refine z_aload_n (pc2 := 53) rfl rfl rfl ?_
    refine z_getP (pc2 := 56) rfl rfl rfl rfl t56 ?_
    intro p3 p3e p3k; replace p3k : p3 = some 57 := p3k; clear p3e; subst p3k
    refine z_aload_n (pc2 := 57) rfl rfl rfl ?_
    refine z_callV (y2 := 162) (as := []) (rest := [_]) (pc2 := 60) rfl rfl rfl rfl t56 rfl ?_
    refine z_inl ?_
    refine z_lv (lv2 := [(0, _)]) ⟨rfl, trivial⟩ ?_
    refine z_ldc (56100) (pc2 := 2) rfl rfl rfl ?_
    refine z_aload_n (pc2 := 3) rfl rfl rfl ?_
    refine z_getI (pc2 := 6) 0 rfl rfl rfl rfl rfl t56 ?_
    intro v4 e4 r4 k4
    clear e4
    replace k4 : (0 : Int) ≤ v4 ∧ v4 ≤ 1 := k4; clear r4
    refine z_imul (pc2 := 7) rfl rfl ?_
    refine z_iret rfl rfl ?_
    show zB _ _ _ _ _ _ [_, _] _ _
    refine z_iload_n (pc2 := 61) rfl rfl rfl ?_
    refine z_callS (y2 := 184) (as := [_]) (rest := [_, _]) (pc2 := 64) rfl rfl rfl rfl ?_
    refine m_boxOfSort (by omega) (by assumption) (by omega) (fun w5 w5r => ?_)
    show zB _ _ _ _ _ _ [_, _, _] _ _
    refine z_iadd (pc2 := 65) rfl rfl ?_
    refine z_dup2 (pc2 := 66) rfl rfl rfl rfl ?_
    refine z_iald (pc2 := 67) rfl rfl t57 (by omega) (by omega) (by decide) ?_
    intro v6 e6 r6 k6
    clear e6
    clear k6
    refine z_iconst (pc2 := 68) rfl rfl ?_
    refine z_iadd (pc2 := 69) rfl rfl ?_
    refine z_iast_any (pc2 := 70) rfl rfl t57 (by omega) (by omega) (by decide) (fun _ _ => st_box (by omega)) (fun u7 u7r => ?_); clear u7r
    refine z_iconst (pc2 := 71) rfl rfl ?_
    refine z_iret rfl rfl ?_
    exact hK _ _ _ (by omega) (by repeat (first | exact zFb_rf _ | assumption | refine zFb_u ?_ (by omega)))
  ·
    refine z_aload_n (pc2 := 9) rfl rfl rfl ?_
    refine z_getP (pc2 := 12) rfl rfl rfl rfl t56 ?_
    intro p8 p8e p8k; replace p8k : p8 = some 57 := p8k; clear p8e; subst p8k
    refine z_aload_n (pc2 := 13) rfl rfl rfl ?_
    refine z_callV (y2 := 162) (as := []) (rest := [_]) (pc2 := 16) rfl rfl rfl rfl t56 rfl ?_
    refine z_inl ?_
    refine z_lv (lv2 := [(0, _)]) ⟨rfl, trivial⟩ ?_
    refine z_ldc (56100) (pc2 := 2) rfl rfl rfl ?_
    refine z_aload_n (pc2 := 3) rfl rfl rfl ?_
    refine z_getI (pc2 := 6) 0 rfl rfl rfl rfl rfl t56 ?_
    intro v9 e9 r9 k9
    clear e9
    replace k9 : (0 : Int) ≤ v9 ∧ v9 ≤ 1 := k9; clear r9
    refine z_imul (pc2 := 7) rfl rfl ?_
    refine z_iret rfl rfl ?_
    show zB _ _ _ _ _ _ [_, _] _ _
    refine z_iload_n (pc2 := 17) rfl rfl rfl ?_
    refine z_callS (y2 := 173) (as := [_]) (rest := [_, _]) (pc2 := 20) rfl rfl rfl rfl ?_
    refine z_inl ?_
    refine z_lv (lv2 := [(0, _)]) ⟨rfl, trivial⟩ ?_
    refine z_iload_n (pc2 := 1) rfl rfl rfl ?_
    refine z_iconst (pc2 := 2) rfl rfl ?_
    refine z_shr_3 (pc2 := 3) rfl rfl (by omega) ?_
    refine z_sipush (pc2 := 6) rfl rfl (by decide) ?_
    refine z_and_255 (pc2 := 7) rfl rfl ?_
    refine z_iret rfl rfl ?_
    show zB _ _ _ _ _ _ [_, _, _] _ _
    refine z_callS (y2 := 183) (as := [_]) (rest := [_, _]) (pc2 := 23) rfl rfl rfl rfl ?_
    refine m_boxOfPart (by omega) (by first | assumption | (refine ⟨?_, ?_⟩ <;> omega)) (fun w12 w12r => ?_)
    show zB _ _ _ _ _ _ [_, _, _] _ _
    refine z_iadd (pc2 := 24) rfl rfl ?_
    refine z_dup2 (pc2 := 25) rfl rfl rfl rfl ?_
    refine z_iald (pc2 := 26) rfl rfl t57 (by omega) (by omega) (by decide) ?_
    intro v13 e13 r13 k13
    clear e13
    clear k13
    refine z_iconst (pc2 := 27) rfl rfl ?_
    refine z_iadd (pc2 := 28) rfl rfl ?_
    refine z_iast_any (pc2 := 29) rfl rfl t57 (by omega) (by omega) (by decide) (fun _ _ => st_box (by omega)) (fun u14 u14r => ?_); clear u14r
    refine z_aload_n (pc2 := 30) rfl rfl rfl ?_
    refine z_getP (pc2 := 33) rfl rfl rfl rfl t56 ?_
    intro p15 p15e p15k; replace p15k : p15 = some 57 := p15k; clear p15e; subst p15k
    refine z_aload_n (pc2 := 34) rfl rfl rfl ?_
    refine z_callV (y2 := 162) (as := []) (rest := [_]) (pc2 := 37) rfl rfl rfl rfl t56 rfl ?_
    refine z_inl ?_
    refine z_lv (lv2 := [(0, _)]) ⟨rfl, trivial⟩ ?_
    refine z_ldc (56100) (pc2 := 2) rfl rfl rfl ?_
    refine z_aload_n (pc2 := 3) rfl rfl rfl ?_
    refine z_getI (pc2 := 6) 0 rfl rfl rfl rfl rfl t56 ?_
    intro v16 e16 r16 k16
    clear e16
    replace k16 : (0 : Int) ≤ v16 ∧ v16 ≤ 1 := k16; clear r16
    refine z_imul (pc2 := 7) rfl rfl ?_
    refine z_iret rfl rfl ?_
    show zB _ _ _ _ _ _ [_, _] _ _
    refine z_iload_n (pc2 := 38) rfl rfl rfl ?_
    refine z_callS (y2 := 174) (as := [_]) (rest := [_, _]) (pc2 := 41) rfl rfl rfl rfl ?_
    refine z_inl ?_
    refine z_lv (lv2 := [(0, _)]) ⟨rfl, trivial⟩ ?_
    refine z_iload_n (pc2 := 1) rfl rfl rfl ?_
    refine z_bipush (pc2 := 3) rfl rfl (by decide) ?_
    refine z_shr_11 (pc2 := 4) rfl rfl (by omega) ?_
    refine z_sipush (pc2 := 7) rfl rfl (by decide) ?_
    refine z_and_255 (pc2 := 8) rfl rfl ?_
    refine z_iret rfl rfl ?_
    show zB _ _ _ _ _ _ [_, _, _] _ _
    refine z_callS (y2 := 183) (as := [_]) (rest := [_, _]) (pc2 := 44) rfl rfl rfl rfl ?_
    refine m_boxOfPart (by omega) (by first | assumption | (refine ⟨?_, ?_⟩ <;> omega)) (fun w19 w19r => ?_)
    show zB _ _ _ _ _ _ [_, _, _] _ _
    refine z_iadd (pc2 := 45) rfl rfl ?_
    refine z_dup2 (pc2 := 46) rfl rfl rfl rfl ?_
    refine z_iald (pc2 := 47) rfl rfl t57 (by omega) (by omega) (by decide) ?_
    intro v20 e20 r20 k20
    clear e20
    clear k20
    refine z_iconst (pc2 := 48) rfl rfl ?_
    refine z_iadd (pc2 := 49) rfl rfl ?_
    refine z_iast_any (pc2 := 50) rfl rfl t57 (by omega) (by omega) (by decide) (fun _ _ => st_box (by omega)) (fun u21 u21r => ?_); clear u21r
    refine z_iconst (pc2 := 51) rfl rfl ?_
    refine z_iret rfl rfl ?_
    exact hK _ _ _ (by omega) (by repeat (first | exact zFb_rf _ | assumption | refine zFb_u ?_ (by omega)))
