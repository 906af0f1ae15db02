/-! breaks that are chosen: where each line goes on -/
theorem zNd_0 {I : Nat → Nat → Int} (h : I 56 33 = 0) : zNd I := fun i j hi _ _ => by omega
theorem zNd_eq {I I2 : Nat → Nat → Int} (h : zNd I) (h1 : I2 56 33 = I 56 33) (h2 : ∀ k, I2 83 k = I 83 k) : zNd I2 := fun i j hi hj hij => h i j (by omega) (by omega) (by rw [← h2 i, ← h2 j]; exact hij)
theorem zQt_l {I I2 : Nat → Nat → Int} (h : zLf I I2) : zQt I I2 := ⟨fun k => (h 57 k).resolve_left (by omega), fun k => (h 61 k).resolve_left (by omega), (h 56 3).resolve_left (by omega)⟩
def zCh2 (N a : Int) (I I2 : Nat → Nat → Int) : Prop := (zFr I I2 ∧ zQt I I2) ∧ I2 56 39 = N ∧ ∀ j : Nat, a < (j : Int) → (j : Int) < N → (j : Int) < I2 85 j ∧ I2 85 j ≤ N
def zCh3 (N a b : Int) (I I2 : Nat → Nat → Int) : Prop := zCh2 N a I I2 ∧ ((b = a + 1 ∧ I2 85 a.toNat = -4) ∨ (a + 1 < b ∧ a < I2 85 a.toNat ∧ I2 85 a.toNat ≤ N))
theorem zCh3_l {N a b : Int} {I I2 I3 : Nat → Nat → Int} (h : zCh3 N a b I I2) (hl : zLf I2 I3) : zCh3 N a b I I3 := by
  obtain ⟨⟨h1, h2, h3⟩, h4⟩ := h
  have e85 : ∀ k, I3 85 k = I2 85 k := fun k => (hl 85 k).resolve_left (by omega)
  have e39 : I3 56 39 = I2 56 39 := (hl 56 39).resolve_left (by omega)
  refine ⟨⟨⟨zFr_tr h1.1 (zFr_l hl), zQt_tr h1.2 (zQt_l hl)⟩, by rw [e39]; exact h2, fun j => by rw [e85]; exact h3 j⟩, by rw [e85]; exact h4⟩
theorem zCh3_w {N a b : Int} {I I2 : Nat → Nat → Int} (h : zCh3 N a b I I2) (h0 : 0 ≤ a) (hab : a < b) (hb : b ≤ N) : zCh3 N a (b + 1) I (zU I2 85 a.toNat b) := by
  obtain ⟨⟨h1, h2, h3⟩, h4⟩ := h
  refine ⟨⟨⟨zFr_a h1.1 (by decide), zQt_a h1.2 (by decide)⟩, by rw [zU_row _ _ _ (by omega)]; exact h2, fun j hj1 hj2 => ?_⟩, Or.inr ⟨by omega, by rw [zU_same]; exact hab, by rw [zU_same]; exact hb⟩⟩
  rw [zU_at _ _ _ (by omega)]
  exact h3 j hj1 hj2
theorem zCh3_n {N a b v : Int} {I I2 : Nat → Nat → Int} (h : zCh3 N a b I I2) (hv : v = I2 85 a.toNat) (h0 : 0 ≤ v) (hab : a + 1 ≤ b) : zCh3 N a (b + 1) I I2 := by
  obtain ⟨h1, h4⟩ := h
  refine ⟨h1, Or.inr ?_⟩
  rcases h4 with ⟨e1, e2⟩ | ⟨e1, e2, e3⟩
  · omega
  · exact ⟨by omega, e2, e3⟩
theorem zCh3_in {N a : Int} {I I2 : Nat → Nat → Int} (h : zCh2 N a I I2) (h0 : 0 ≤ a) : zCh3 N a (a + 1) I (zU I2 85 a.toNat (-4)) := by
  obtain ⟨h1, h2, h3⟩ := h
  refine ⟨⟨⟨zFr_a h1.1 (by decide), zQt_a h1.2 (by decide)⟩, by rw [zU_row _ _ _ (by omega)]; exact h2, fun j hj1 hj2 => ?_⟩, Or.inl ⟨rfl, zU_same _ _ _ _⟩⟩
  rw [zU_at _ _ _ (by omega)]
  exact h3 j hj1 hj2
theorem zCh3_out {N a b : Int} {I I2 : Nat → Nat → Int} (h : zCh3 N a b I I2) (hb : N < b) (haN : a < N) : zCh2 N (a + -1) I I2 := by
  obtain ⟨⟨h1, h2, h3⟩, h4⟩ := h
  refine ⟨h1, h2, fun j hj1 hj2 => ?_⟩
  by_cases e : a < (j : Int)
  · exact h3 j e hj2
  · have ej : j = a.toNat := by omega
    subst ej
    rcases h4 with ⟨e1, e2⟩ | ⟨e1, e2, e3⟩
    · omega
    · omega
theorem zLo_tk {I I2 : Nat → Nat → Int} {k : Nat} {v w : Int} (h : zLf I I2) (hr : zTok I) (hv : v = I2 80 k) (hw : w = I2 81 k) (h7 : v = 7) : 0 ≤ w ∧ w ≤ 11 := by
  have e1 : I2 80 k = I 80 k := (h 80 k).resolve_left (by omega)
  have e2 : I2 81 k = I 81 k := (h 81 k).resolve_left (by omega)
  have := hr k (by omega)
  omega
