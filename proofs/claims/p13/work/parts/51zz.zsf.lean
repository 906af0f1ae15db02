/-! while a line is written down -/
def zSf (q l f : Int) (I I2 : Nat → Nat → Int) : Prop := zSe q l I I2 ∧ I2 57 (56100 * q + 164).toNat = l ∧ I2 57 (56100 * q + 1941 + 66 * l).toNat = f ∧ I2 56 3 = q
theorem zSf_in {q l f p : Int} {k0 k1 : Nat} {I I2 : Nat → Nat → Int} (hq : 0 ≤ q ∧ q ≤ 1) (hl : 0 ≤ l) (h : zSe q l I I2) (hL : I2 57 (56100 * q + 164).toNat = l) (h3 : I2 56 3 = q) (hk0 : (k0 : Int) = 56100 * q + 1940 + 66 * l) (hk1 : (k1 : Int) = 56100 * q + 1941 + 66 * l) : zSf q l f I (zU (zU I2 57 k0 p) 57 k1 f) := by
  refine ⟨zSe_n (zSe_n h (by omega)) (by omega), ?_, ?_, ?_⟩
  · rw [zU_at _ _ _ (by omega), zU_at _ _ _ (by omega)]; exact hL
  · rw [show (56100 * q + 1941 + 66 * l).toNat = k1 by omega, zU_same]
  · rw [zU_row _ _ _ (by omega), zU_row _ _ _ (by omega)]; exact h3
theorem zSf_u {q l f v : Int} {k : Nat} {I I2 : Nat → Nat → Int} (hq : 0 ≤ q ∧ q ≤ 1) (hl : 0 ≤ l) (h : zSf q l f I I2) (hk : 56100 * q + 1942 + 66 * l ≤ k ∧ (k : Int) < 56100 * q + 2006 + 66 * l) : zSf q l f I (zU I2 57 k v) := by
  obtain ⟨h1, h2, h3, h4⟩ := h
  refine ⟨zSe_n h1 (by omega), ?_, ?_, ?_⟩
  · rw [zU_at _ _ _ (by omega)]; exact h2
  · rw [zU_at _ _ _ (by omega)]; exact h3
  · rw [zU_row _ _ _ (by omega)]; exact h4
theorem zJu_n {I I2 : Nat → Nat → Int} {k : Nat} {v : Int} (h : zJu I I2) (hv : I 57 k = v) : I2 57 k = v := by
  rw [(h 57 k).resolve_left (by omega)]; exact hv
theorem zLf_n {I I2 : Nat → Nat → Int} {k : Nat} {v : Int} (h : zLf I I2) (hv : I 57 k = v) : I2 57 k = v := by
  rw [(h 57 k).resolve_left (by omega)]; exact hv
theorem zLf_k {I I2 : Nat → Nat → Int} {k : Nat} {v : Int} (h : zLf I I2) (hk : k < 31 ∨ 38 < k) (hv : I 56 k = v) : I2 56 k = v := by
  rw [(h 56 k).resolve_left (by omega)]; exact hv
