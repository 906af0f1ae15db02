/-! pages that are chosen: how many lines each takes -/
def zPq (I I2 : Nat → Nat → Int) : Prop := ∀ a k, (a = 88 ∨ a = 89 ∨ (a = 56 ∧ (k = 44 ∨ k = 45))) ∨ I2 a k = I a k
theorem zPq_rf (I : Nat → Nat → Int) : zPq I I := fun _ _ => Or.inr rfl
theorem zPq_tr {I I2 I3 : Nat → Nat → Int} (h : zPq I I2) (h2 : zPq I2 I3) : zPq I I3 := by
  intro a k
  rcases h2 a k with e | e
  · exact Or.inl e
  · rcases h a k with e2 | e2
    · exact Or.inl e2
    · exact Or.inr (e.trans e2)
theorem zPq_p {I I2 : Nat → Nat → Int} (h : zPg I I2) : zPq I I2 := fun a k => by
  rcases h a k with e | e
  · exact Or.inl (by omega)
  · exact Or.inr e
theorem zPq_u {I I2 : Nat → Nat → Int} {a k : Nat} {v : Int} (h : zPq I I2) (ha : a = 88 ∨ a = 89 ∨ (a = 56 ∧ (k = 44 ∨ k = 45))) : zPq I (zU I2 a k v) := by
  intro b j
  by_cases e : b = a ∧ j = k
  · obtain ⟨rfl, rfl⟩ := e; exact Or.inl ha
  · rcases h b j with e2 | e2
    · exact Or.inl e2
    · refine Or.inr ?_
      rw [← e2]
      simp [zU, e]
theorem zPq_k {I I2 : Nat → Nat → Int} {k : Nat} {v : Int} (h : zPq I I2) (hk : k ≠ 44 ∧ k ≠ 45) (hv : I 56 k = v) : I2 56 k = v := by
  rw [(h 56 k).resolve_left (by omega)]; exact hv
theorem zFr_pq {I I2 : Nat → Nat → Int} (h : zPq I I2) : zFr I I2 := zFr_q (fun a k => by
  rcases h a k with e | e
  · refine Or.inl ?_
    rcases e with rfl | rfl | ⟨rfl, e1⟩
    · exact zNr_a (by decide)
    · exact zNr_a (by decide)
    · exact zNr_f (by omega)
  · exact Or.inr e)
/-- each line of the galley is one high at least -/
def zHt (q n : Int) (I : Nat → Nat → Int) : Prop := ∀ l : Int, 0 ≤ l → l < n → ∀ fo, fo = I 57 (56100 * q + 1940 + 66 * l + 1).toNat → 1 ≤ I 74 (4 * q + fo).toNat
theorem zHt_q {q n : Int} {I I2 : Nat → Nat → Int} (h : zHt q n I) (hp : zPq I I2) : zHt q n I2 := by
  intro l h0 h1 fo hfo
  rw [(hp 74 _).resolve_left (by omega)]
  rw [(hp 57 _).resolve_left (by omega)] at hfo
  exact h l h0 h1 fo hfo
/-- from a on: how many lines the pages take -/
def zPm (n a : Int) (I : Nat → Nat → Int) : Prop := ∀ j : Nat, a < (j : Int) → (j : Int) < n → 1 ≤ I 89 j ∧ I 89 j ≤ 60 ∧ (j : Int) + I 89 j ≤ n
theorem zPm_p {n a : Int} {I I2 : Nat → Nat → Int} (h : zPm n a I) (hp : zPg I I2) : zPm n a I2 := by
  intro j h1 h2
  rw [(hp 89 j).resolve_left (by omega)]
  exact h j h1 h2
theorem zPm_u {n a v : Int} {I : Nat → Nat → Int} (h : zPm n a I) (h0 : 0 ≤ a) : zPm n a (zU I 89 a.toNat v) := by
  intro j h1 h2
  rw [zU_at _ _ _ (by omega)]
  exact h j h1 h2
theorem zPm_f {n a v : Int} {k : Nat} {I : Nat → Nat → Int} (h : zPm n a I) : zPm n a (zU I 56 k v) := by
  intro j h1 h2
  rw [zU_row _ _ _ (by omega)]
  exact h j h1 h2
theorem zPm_out {n a : Int} {I : Nat → Nat → Int} (h : zPm n a I) (h1 : 1 ≤ I 89 a.toNat ∧ I 89 a.toNat ≤ 60 ∧ a + I 89 a.toNat ≤ n) : zPm n (a + -1) I := by
  intro j h2 h3
  by_cases e : a < (j : Int)
  · exact h j e h3
  · have ej : j = a.toNat := by omega
    subst ej
    omega
theorem zNp_r {I : Nat → Nat → Int} {k : Nat} {v : Int} (hn : zNp I) : zNp (zU I 89 k v) := by
  intro i j hi hj hij
  rw [zU_row _ _ _ (by omega)] at hi hj
  rw [zU_row _ _ _ (by omega)] at hij
  exact hn i j hi hj hij
theorem zPq_r {I I2 : Nat → Nat → Int} {k : Nat} {v : Int} (h : zPq I I2) : zPq I (zU I2 89 k v) := zPq_u h (Or.inr (Or.inl rfl))
theorem zPq_f {I I2 : Nat → Nat → Int} {k : Nat} {v : Int} (h : zPq I I2) (hk : k = 44 ∨ k = 45) : zPq I (zU I2 56 k v) := zPq_u h (Or.inr (Or.inr ⟨rfl, hk⟩))
