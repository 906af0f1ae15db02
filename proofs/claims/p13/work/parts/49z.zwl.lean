/-! what a line's sorts want -/
def zWl (I I2 : Nat → Nat → Int) : Prop := ∀ a k, (a = 82 ∨ a = 83 ∨ a = 87 ∨ (a = 56 ∧ 31 ≤ k ∧ k ≤ 38)) ∨ I2 a k = I a k
theorem zWl_rf (I : Nat → Nat → Int) : zWl I I := fun _ _ => Or.inr rfl
theorem zWl_tr {I I2 I3 : Nat → Nat → Int} (h : zWl I I2) (h2 : zWl I2 I3) : zWl I I3 := by
  intro a k
  rcases h2 a k with e | e
  · exact Or.inl e
  · rcases h a k with e2 | e2
    · exact Or.inl e2
    · exact Or.inr (e.trans e2)
theorem zWl_l {I I2 : Nat → Nat → Int} (h : zLf I I2) : zWl I I2 := fun a k => by
  rcases h a k with e | e
  · exact Or.inl (by omega)
  · exact Or.inr e
theorem zWl_w {I I2 : Nat → Nat → Int} {k : Nat} {v : Int} (h : zWl I I2) : zWl I (zU I2 87 k v) := by
  intro b j
  by_cases e : b = 87 ∧ j = k
  · exact Or.inl (by omega)
  · rcases h b j with e2 | e2
    · exact Or.inl e2
    · refine Or.inr ?_
      rw [← e2]
      simp [zU, e]
theorem zFr_wl {I I2 : Nat → Nat → Int} (h : zWl I I2) : zFr I I2 := zFr_q (fun a k => by
  rcases h a k with e | e
  · refine Or.inl ?_
    rcases e with rfl | rfl | rfl | ⟨rfl, e1, e2⟩
    · exact zNr_a (by decide)
    · exact zNr_a (by decide)
    · exact zNr_a (by decide)
    · exact zNr_f (by omega)
  · exact Or.inr e)
/-- where lines go on, as chooseLines left it -/
def zGo (N : Int) (I : Nat → Nat → Int) : Prop := I 56 39 = N ∧ ∀ j : Nat, (j : Int) < N → (j : Int) < I 85 j ∧ I 85 j ≤ N
theorem zGo_of {N : Int} {I I2 : Nat → Nat → Int} (h : zCh2 N (-1) I I2) : zGo N I2 := ⟨h.2.1, fun j hj => h.2.2 j (by omega) hj⟩
theorem zGo_wl {N : Int} {I I2 : Nat → Nat → Int} (h : zGo N I) (hw : zWl I I2) : zGo N I2 := by
  have e85 : ∀ k, I2 85 k = I 85 k := fun k => (hw 85 k).resolve_left (by omega)
  have e39 : I2 56 39 = I 56 39 := (hw 56 39).resolve_left (by omega)
  exact ⟨by rw [e39]; exact h.1, fun j => by rw [e85]; exact h.2 j⟩
theorem zGo_nx {N a v : Int} {I : Nat → Nat → Int} (h : zGo N I) (hv : v = I 85 a.toNat) (h0 : 0 ≤ a) (ha : a < N) : a < v ∧ v ≤ N := by
  have := h.2 a.toNat (by omega)
  omega
