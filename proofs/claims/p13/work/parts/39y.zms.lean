/-! a row of sorts is made -/
theorem c_sortAt2 {L : Nat} {xs : Nat → Int32} {n sl : Nat} {T : Nat → zT} {I : Nat → Nat → Int} {P : Nat → Nat → Option Nat} {G : Nat → Nat → Int} {K : List zV → zH → Prop} {un k a : Int} {fo : Nat} (hn : 90 ≤ n) (hC : ∀ a, 1 ≤ a → a ≤ 55 → T a = zFixC a) (hk : 0 ≤ k ∧ k ≤ 39) (hun : 0 ≤ un ∧ un ≤ 24) (hrf : P 5 4 = some fo) (tfo : T fo = (1, 3, [un])) (fol : fo ≤ n) (fo9 : 91 ≤ fo) (htw : zTw un (I 6 k.toNat) (I 7 k.toNat) (I 8 k.toNat)) (h67 : I 6 k.toNat ≠ 6 ∧ I 6 k.toNat ≠ 7)
    (hK : ∀ n2 s2 T2 I2 P2 G2 q, zTn n T T2 → zTm T T2 → zQs (zIn n) I I2 → zPs2 (zIn n) P P2 → 91 ≤ q → q ≤ n2 → zSS (T2 q) → (n ≤ n2 ∧ n2 ≤ n + 3 ∧ s2 ≤ sl + 18) → K [.inr (.inl (some q))] (n2, s2, T2, I2, P2, G2)) : zX zMd L xs 75 [.inr (.inl (some 5)), .inl k, .inl a] (n, sl, T, I, P, G) K := by
  refine zX_wf2 (fun hw => ?_)
  have b7 : 0 ≤ I 7 k.toNat ∧ I 7 k.toNat ≤ 23 := by have h1 := hw.2.1 7 k.toNat; rw [show (n, sl, T, I, P, G).2.2.1 7 = T 7 from rfl, hC 7 (by decide) (by decide)] at h1; exact h1
  have b8 : 0 ≤ I 8 k.toNat ∧ I 8 k.toNat ≤ 23 := by have h1 := hw.2.1 8 k.toNat; rw [show (n, sl, T, I, P, G).2.2.1 8 = T 8 from rfl, hC 8 (by decide) (by decide)] at h1; exact h1
  have hv := htw
  unfold zTw at hv
  exact c_Reading_sortAt (kd := I 6 k.toNat) hn hC hk hun (by omega) b7 b8 hrf tfo fol fo9 rfl rfl rfl htw h67 hK
theorem zTw_q {un a b c a2 b2 c2 : Int} (h : zTw un a b c) (h1 : a2 = a) (h2 : b2 = b) (h3 : c2 = c) : zTw un a2 b2 c2 := by rw [h1, h2, h3]; exact h
def zIa (ar n a k : Nat) : Prop := a ≤ n ∧ a ≠ ar ∧ k = k
def zIl (n a k : Nat) : Prop := a ≤ n ∧ ¬ (a = 9 ∧ (k = 2 ∨ 9 ≤ k))
