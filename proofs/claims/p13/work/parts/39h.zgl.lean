/-! the galley, the formes: what holds behind a change -/
theorem zCP_rl {n x : Nat} {l : Int} {T : Nat → zT} {I I2 : Nat → Nat → Int} {P : Nat → Nat → Option Nat} (ix : x = 23 ∨ x = 30 ∨ x = 42 ∨ x = 49) (hf : ∀ a k, a ≠ x + 1 → ¬ (a = x ∧ (k = 6 ∨ k = 8)) → I2 a k = I a k) (h6 : I2 x 6 = l) (h8 : I2 x 8 = 0) (hl : l ≤ I x 6) : zCP n T T I I2 P P := by
  refine ⟨fun _ _ => rfl, fun hr => ?_, fun a k ha => hf a k (by omega) (by omega)⟩
  obtain ⟨g1, g2, g3⟩ := hr
  refine ⟨?_, g2, fun y hy => ?_⟩
  · rw [hf 1 6 (by omega) (by omega)]; exact g1
  · by_cases e : y = x
    · subst e
      obtain ⟨k1, k2, k3⟩ := g3 y hy
      refine ⟨fun j hj => k1 j (by omega), fun j hj => by omega, fun j hj => k3 j ?_⟩
      rw [hf y 10 (by omega) (by omega)] at hj; exact hj
    · exact zFlr_eq (g3 y hy) (fun _ _ h _ => h) (hf y 6 (by omega) (by omega)) (hf y 8 (by omega) (by omega)) (hf y 10 (by omega) (by omega)) (fun k => ⟨rfl, rfl, rfl⟩)
theorem zCP_undo {n b x z : Nat} {v w : Int} {T : Nat → zT} {I : Nat → Nat → Int} {P : Nat → Nat → Option Nat} (hb : b = 18 ∨ b = 37) (hx : some x = P b 4) (hz : some z = P b 5) : zCP n T T I (zU (zU I b 6 v) 1 9 w) P (zU (zU P b 4 (some z)) b 5 (some x)) := by
  have hI : ∀ a k, ¬ (a = b ∧ k = 6) → ¬ (a = 1 ∧ k = 9) → zU (zU I b 6 v) 1 9 w a k = I a k := fun a k h1 h2 => by simp [zU, h1, h2]
  refine ⟨fun _ _ => rfl, fun hr => ?_, fun a k ha => hI a k (by omega) (by omega)⟩
  obtain ⟨g1, g2, g3⟩ := hr
  refine ⟨?_, fun c hc => ?_, fun y hy => ?_⟩
  · rw [hI 1 6 (by omega) (by omega), zU_row _ _ _ (by omega), zU_row _ _ _ (by omega)]; exact g1
  · by_cases e : c = b
    · subst e
      rw [zU_at _ _ _ (by omega), zU_same, zU_same]
      rcases g2 c hc with ⟨h1, h2⟩ | ⟨h1, h2⟩
      · exact Or.inr ⟨hz.trans h2, hx.trans h1⟩
      · exact Or.inl ⟨hz.trans h2, hx.trans h1⟩
    · rw [zU_row _ _ _ e, zU_row _ _ _ e]; exact g2 c hc
  · exact zFlr_eq (g3 y hy) (fun _ _ h _ => h) (hI y 6 (by omega) (by omega)) (hI y 8 (by omega) (by omega)) (hI y 10 (by omega) (by omega)) (fun k => by
      rw [zU_row _ _ _ (by omega), zU_row _ _ _ (by omega), zU_row _ _ _ (by omega), zU_row _ _ _ (by omega), zU_row _ _ _ (by omega), zU_row _ _ _ (by omega)]
      exact ⟨rfl, rfl, rfl⟩)
def zSh (x : Nat) (u : Int) (P P2 : Nat → Nat → Option Nat) : Prop := (∀ a k, a ≠ x + 6 → P2 a k = P a k) ∧ ∀ j : Nat, (j : Int) < u → ∃ q, P2 (x + 6) j = some q
theorem zSh_u {x k q : Nat} {u : Int} {P P2 : Nat → Nat → Option Nat} (h : zSh x u P P2) : zSh x u P (zU P2 (x + 6) k (some q)) := by
  refine ⟨fun a j ha => by rw [zU_row _ _ _ ha]; exact h.1 a j ha, fun j hj => ?_⟩
  by_cases e : j = k
  · subst e; exact ⟨q, zU_same _ _ _ _⟩
  · rw [zU_at _ _ _ e]; exact h.2 j hj
theorem zCP_fo {n x : Nat} {T : Nat → zT} {I I2 : Nat → Nat → Int} {P P2 : Nat → Nat → Option Nat} (ix : x = 23 ∨ x = 30 ∨ x = 42 ∨ x = 49) (hf : ∀ a k, a ≠ x + 1 → ¬ (a = x ∧ k = 10) → I2 a k = I a k) (h10 : I2 x 10 = I x 10 - 1) (hs : zSh x (I x 10) P P2) : zCP n T T I I2 P P2 := by
  refine ⟨fun _ _ => rfl, fun hr => ?_, fun a k ha => hf a k (by omega) (by omega)⟩
  obtain ⟨g1, g2, g3⟩ := hr
  refine ⟨?_, fun c hc => ?_, fun y hy => ?_⟩
  · rw [hf 1 6 (by omega) (by omega), hs.1 1 5 (by omega)]; exact g1
  · rw [hs.1 c 4 (by omega), hs.1 c 5 (by omega)]; exact g2 c hc
  · by_cases e : y = x
    · subst e
      obtain ⟨k1, k2, k3⟩ := g3 y hy
      refine ⟨fun j hj => ?_, fun j hj => ?_, fun j hj => hs.2 j (by omega)⟩
      · rw [hs.1 _ _ (by omega)]; rw [hf y 6 (by omega) (by omega)] at hj; exact k1 j hj
      · rw [hs.1 _ _ (by omega), hf y 6 (by omega) (by omega)]; rw [hf y 8 (by omega) (by omega)] at hj; exact k2 j hj
    · exact zFlr_eq (g3 y hy) (fun _ _ h _ => h) (hf y 6 (by omega) (by omega)) (hf y 8 (by omega) (by omega)) (hf y 10 (by omega) (by omega)) (fun k => ⟨hs.1 _ _ (by omega), hs.1 _ _ (by omega), hs.1 _ _ (by omega)⟩)
