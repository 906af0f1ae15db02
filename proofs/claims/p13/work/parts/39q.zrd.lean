/-! what is read -/
def zTw (un kd cd sd : Int) : Prop := (0 ≤ kd ∧ kd ≤ 7) ∧ (kd = 0 → 0 ≤ cd ∧ cd < un) ∧ (kd = 1 → (0 ≤ cd ∧ cd ≤ 5) ∧ 1 ≤ un) ∧ (kd = 4 → 0 ≤ cd ∧ cd ≤ 3) ∧ (kd = 5 → (0 ≤ cd ∧ cd < un) ∧ 0 ≤ sd ∧ sd < un) ∧ (kd = 6 → 1 ≤ un) ∧ (kd = 7 → 0 ≤ cd ∧ cd ≤ 11)
def zTkn (un c : Int) (I : Nat → Nat → Int) : Prop := ∀ i : Nat, (i : Int) < c → zTw un (I 6 i) (I 7 i) (I 8 i)
def zRdf (I I2 : Nat → Nat → Int) : Prop := ∀ a k, ¬ (a = 5 ∧ k = 3) → a ≠ 6 → a ≠ 7 → a ≠ 8 → I2 a k = I a k
theorem zRdf_rf {I : Nat → Nat → Int} : zRdf I I := fun _ _ _ _ _ _ => rfl
theorem zRdf_tr {I I2 I3 : Nat → Nat → Int} (h : zRdf I I2) (h2 : zRdf I2 I3) : zRdf I I3 := fun a k h1 h3 h4 h5 => by rw [h2 a k h1 h3 h4 h5, h a k h1 h3 h4 h5]
theorem zRdf_c {I : Nat → Nat → Int} {v : Int} : zRdf I (zU I 5 3 v) := fun a k h1 _ _ _ => by simp [zU, h1]
theorem zRdf_f {I : Nat → Nat → Int} {c kd cd sd v : Int} : zRdf I (zU (zU (zU (zU I 6 c.toNat kd) 7 c.toNat cd) 8 c.toNat sd) 5 3 v) := fun a k h1 h3 h4 h5 => by
  simp [zU, h1, h3, h4, h5]
theorem zTkn_f {un c kd cd sd v : Int} {I : Nat → Nat → Int} (h : zTkn un c I) (h0 : 0 ≤ c) (hv : zTw un kd cd sd) : zTkn un (c + 1) (zU (zU (zU (zU I 6 c.toNat kd) 7 c.toNat cd) 8 c.toNat sd) 5 3 v) := by
  intro i hi
  by_cases e : i = c.toNat
  · subst e
    simpa [zU] using hv
  · have := h i (by omega)
    simpa [zU, e] using this
theorem zTkn_0 {un : Int} {I : Nat → Nat → Int} : zTkn un 0 I := fun i hi => by omega
