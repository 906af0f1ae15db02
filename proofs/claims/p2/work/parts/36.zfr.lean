/-! what a method of the reference leaves as it was: all but its own cells; of these the room at hand and the notes' heights -/
def zFr (I I2 : Nat → Nat → Int) : Prop := ∀ a k, (56 ≤ a ∧ a ≤ 90 ∧ a ≠ 79 ∧ ¬ (a = 56 ∧ k = 3)) ∨ I2 a k = I a k
theorem zFr_rf (I : Nat → Nat → Int) : zFr I I := fun _ _ => Or.inr rfl
theorem zFr_tr {I I2 I3 : Nat → Nat → Int} (h : zFr I I2) (h2 : zFr I2 I3) : zFr I I3 := by
  intro a k
  rcases h2 a k with e | e
  · exact Or.inl e
  · rcases h a k with e2 | e2
    · exact Or.inl e2
    · exact Or.inr (e.trans e2)
theorem zFr_u {I I2 : Nat → Nat → Int} {a k : Nat} {v : Int} (h : zFr I I2) (ha : 56 ≤ a ∧ a ≤ 90 ∧ a ≠ 79 ∧ ¬ (a = 56 ∧ k = 3)) : zFr I (zU I2 a k v) := by
  intro b j
  by_cases e : b = a ∧ j = k
  · obtain ⟨rfl, rfl⟩ := e; exact Or.inl ha
  · rcases h b j with e2 | e2
    · exact Or.inl e2
    · refine Or.inr ?_
      rw [← e2]
      simp [zU, e]
theorem zFr_a {I I2 : Nat → Nat → Int} {a k : Nat} {v : Int} (h : zFr I I2) (ha : 57 ≤ a ∧ a ≤ 90 ∧ a ≠ 79) : zFr I (zU I2 a k v) := zFr_u h ⟨by omega, ha.2.1, ha.2.2, by omega⟩
theorem zFr_f {I I2 : Nat → Nat → Int} {k : Nat} {v : Int} (h : zFr I I2) (hk : k ≠ 3) : zFr I (zU I2 56 k v) := zFr_u h ⟨by omega, by omega, by omega, by omega⟩
theorem z_ne0 {b : Int} (hr : zR b) (h0 : b ≠ 0) : ¬ Int32.ofInt b = 0 := by
  rw [show (0 : Int32) = Int32.ofInt 0 from rfl, z_eq hr (by omega)]; exact h0
