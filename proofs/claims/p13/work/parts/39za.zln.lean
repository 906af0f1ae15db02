/-! lines, one behind the other -/
theorem zCt_ad {I : Nat → Nat → Int} {a k s2 s9 r : Int} (h0 : 0 ≤ a ∧ a ≤ k) (hs : s2 = zCt zOne (I 6) a.toNat (k - a).toNat) (h6 : r = I 6 k.toNat) (hx : r = 6 ∨ r = 7 → s9 = s2) (hy : r ≠ 6 → r ≠ 7 → s9 = s2 + 1) : s9 = zCt zOne (I 6) a.toNat (k + 1 - a).toNat := by
  have e := zCt_s (f := zOne) h0 hs h6
  by_cases h : r = 6 ∨ r = 7
  · rw [zOne_0 h] at e; rw [hx h, ← e]; omega
  · rw [zOne_1 (by omega)] at e; rw [hy (by omega) (by omega), ← e]
theorem zRmn_eq {I I2 : Nat → Nat → Int} {c : Int} (h : ∀ j, I2 12 j = I 12 j) : ∀ {m : Nat} {a : Int}, zRmn I c m a → zRmn I2 c m a
  | 0, _, hr => hr
  | m + 1, a, hr => ⟨hr.1, by rw [h]; exact zRmn_eq h hr.2⟩
theorem zAllN_q {c f : Int} {I I2 : Nat → Nat → Int} (h : zAllN c f I) (h12 : ∀ j, I2 12 j = I 12 j) (h6 : ∀ j, I2 6 j = I 6 j) : zAllN c f I2 := fun j a b d e => zNx_eq (h j a b d (by rw [h6] at e; exact e)) (h12 _) h6
def zIk (n a k : Nat) : Prop := a ≤ n ∧ a ≠ 9 ∧ k = k
def zIj (n a k : Nat) : Prop := a ≤ n ∧ a ≠ 10 ∧ k = k
theorem zCP_al {n x : Nat} {T : Nat → zT} {I I2 : Nat → Nat → Int} {P P2 : Nat → Nat → Option Nat} (ix : x = 23 ∨ x = 30 ∨ x = 42 ∨ x = 49) (hf : ∀ a k, a ≠ x + 1 → ¬ (a = x ∧ (k = 6 ∨ k = 8)) → I2 a k = I a k) (hp : ∀ a k, a ≠ x + 4 → P2 a k = P a k) (h8 : I2 x 8 = 0) (hpre : ∀ j : Nat, (j : Int) < I2 x 6 → ∃ q, P2 (x + 4) j = some q) : zCP n T T I I2 P P2 := by
  refine ⟨fun _ _ => rfl, fun hr => ?_, fun a k ha => hf a k (by omega) (by omega)⟩
  obtain ⟨g1, g2, g3⟩ := hr
  refine ⟨?_, fun c hc => ?_, fun y hy => ?_⟩
  · rw [hf 1 6 (by omega) (by omega), hp 1 5 (by omega)]; exact g1
  · rw [hp c 4 (by omega), hp c 5 (by omega)]; exact g2 c hc
  · by_cases e : y = x
    · subst e
      obtain ⟨k1, k2, k3⟩ := g3 y hy
      refine ⟨hpre, fun j hj => by omega, fun j hj => ?_⟩
      rw [hp _ _ (by omega)]
      rw [hf y 10 (by omega) (by omega)] at hj
      exact k3 j hj
    · exact zFlr_eq (g3 y hy) (fun _ _ h _ => h) (hf y 6 (by omega) (by omega)) (hf y 8 (by omega) (by omega)) (hf y 10 (by omega) (by omega)) (fun k => ⟨hp _ _ (by omega), hp _ _ (by omega), hp _ _ (by omega)⟩)
theorem zPre4_s {x : Nat} {u : Int} {q : Nat} {P : Nat → Nat → Option Nat} (h : ∀ j : Nat, (j : Int) < u → ∃ q, P (x + 4) j = some q) : ∀ j : Nat, (j : Int) < u + 1 → ∃ r, zU P (x + 4) u.toNat (some q) (x + 4) j = some r := by
  intro j hj
  by_cases e : j = u.toNat
  · subst e; exact ⟨q, zU_same _ _ _ _⟩
  · rw [zU_at _ _ _ e]; exact h j (by omega)
theorem zPre10_s {u : Int} {q : Nat} {P P2 : Nat → Nat → Option Nat} (h : ∀ j : Nat, (j : Int) < u → ∃ q, P 10 j = some q) (hp : ∀ j, P2 10 j = P 10 j) : ∀ j : Nat, (j : Int) < u + 1 → ∃ r, zU P2 10 u.toNat (some q) 10 j = some r := by
  intro j hj
  by_cases e : j = u.toNat
  · subst e; exact ⟨q, zU_same _ _ _ _⟩
  · rw [zU_at _ _ _ e, hp]; exact h j (by omega)
theorem zU_ne2 {I : Nat → Nat → Int} {a k b j : Nat} {v : Int} (h : ¬ (b = a ∧ j = k)) : zU I a k v b j = I b j := by simp [zU, h]
