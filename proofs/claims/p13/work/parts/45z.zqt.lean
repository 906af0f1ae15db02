/-! galleys, letters and the room at hand as they were -/
def zQt (I I2 : Nat → Nat → Int) : Prop := (∀ k, I2 57 k = I 57 k) ∧ (∀ k, I2 61 k = I 61 k) ∧ I2 56 3 = I 56 3
theorem zQt_rf (I : Nat → Nat → Int) : zQt I I := ⟨fun _ => rfl, fun _ => rfl, rfl⟩
theorem zQt_tr {I I2 I3 : Nat → Nat → Int} (h : zQt I I2) (h2 : zQt I2 I3) : zQt I I3 := ⟨fun k => (h2.1 k).trans (h.1 k), fun k => (h2.2.1 k).trans (h.2.1 k), h2.2.2.trans h.2.2⟩
theorem zQt_a {I I2 : Nat → Nat → Int} {a k : Nat} {v : Int} (h : zQt I I2) (ha : a ≠ 57 ∧ a ≠ 61 ∧ a ≠ 56) : zQt I (zU I2 a k v) :=
  ⟨fun j => by rw [zU_row _ _ _ (by omega)]; exact h.1 j, fun j => by rw [zU_row _ _ _ (by omega)]; exact h.2.1 j, by rw [zU_row _ _ _ (by omega)]; exact h.2.2⟩
theorem zQt_f {I I2 : Nat → Nat → Int} {k : Nat} {v : Int} (h : zQt I I2) (hk : k ≠ 3) : zQt I (zU I2 56 k v) :=
  ⟨fun j => by rw [zU_row _ _ _ (by omega)]; exact h.1 j, fun j => by rw [zU_row _ _ _ (by omega)]; exact h.2.1 j, by rw [zU_at _ _ _ (by omega)]; exact h.2.2⟩
