/-! the room at hand and the notes' heights -/
def zRf (I I2 : Nat → Nat → Int) : Prop := ∀ b k, (b = 56 ∧ (k = 3 ∨ k = 4)) ∨ I2 b k = I b k
theorem zRf_1 {I : Nat → Nat → Int} {v : Int} : zRf I (zU I 56 4 v) := fun b k => by
  by_cases e : b = 56 ∧ k = 4
  · exact Or.inl (by omega)
  · exact Or.inr (by simp [zU, e])
theorem zRf_2 {I : Nat → Nat → Int} {v w : Int} : zRf I (zU (zU I 56 3 w) 56 4 v) := fun b k => by
  by_cases e : b = 56 ∧ (k = 3 ∨ k = 4)
  · exact Or.inl e
  · refine Or.inr ?_
    have e1 : ¬ (b = 56 ∧ k = 3) := by omega
    have e2 : ¬ (b = 56 ∧ k = 4) := by omega
    simp [zU, e1, e2]
def zNf (I I2 : Nat → Nat → Int) : Prop := ∀ b k, (b = 79 ∨ (b = 56 ∧ k = 4)) ∨ I2 b k = I b k
theorem zNf_1 {I : Nat → Nat → Int} {v : Int} : zNf I (zU I 56 4 v) := fun b k => by
  by_cases e : b = 56 ∧ k = 4
  · exact Or.inl (by omega)
  · exact Or.inr (by simp [zU, e])
theorem zNf_2 {I : Nat → Nat → Int} {j : Nat} {v w : Int} : zNf I (zU (zU I 79 j w) 56 4 v) := fun b k => by
  by_cases e : b = 79 ∨ (b = 56 ∧ k = 4)
  · exact Or.inl e
  · refine Or.inr ?_
    have e1 : ¬ (b = 79 ∧ k = j) := by omega
    have e2 : ¬ (b = 56 ∧ k = 4) := by omega
    simp [zU, e1, e2]
