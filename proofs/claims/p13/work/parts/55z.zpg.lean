/-! pages that are measured -/
def zNp (I : Nat → Nat → Int) : Prop := ∀ i j : Nat, (i : Int) < I 56 45 → (j : Int) < I 56 45 → I 88 i = I 88 j → i = j
theorem zNp_lt {I : Nat → Nat → Int} {p : Int} (hn : zNp I) (hr : ∀ k, 0 ≤ I 88 k ∧ I 88 k ≤ 11) (hp : 0 ≤ p ∧ p ≤ 11) (hno : ∀ j : Nat, (j : Int) < I 56 45 → I 88 j ≠ p) : I 56 45 ≤ 11 := by
  by_cases h0 : I 56 45 ≤ 0
  · omega
  · have key := zPhp 12 ((I 56 45).toNat + 1) (fun i => if i = (I 56 45).toNat then p else I 88 i) (by
      intro i hi
      by_cases e : i = (I 56 45).toNat
      · simp only [e, if_true]; omega
      · simp only [e, if_false]; have := hr i; omega) (by
      intro i j hi hj hij
      by_cases e1 : i = (I 56 45).toNat
      · by_cases e2 : j = (I 56 45).toNat
        · omega
        · simp only [e1, e2, if_true, if_false] at hij
          exact absurd hij.symm (hno j (by omega))
      · by_cases e2 : j = (I 56 45).toNat
        · simp only [e1, e2, if_true, if_false] at hij
          exact absurd hij (hno i (by omega))
        · simp only [e1, e2, if_false] at hij
          exact hn i j (by omega) (by omega) hij)
    omega
theorem zNp_put {I : Nat → Nat → Int} {p N x : Int} (hn : zNp I) (hN : I 56 45 = N) (h0 : 0 ≤ N) (hno : ∀ j : Nat, (j : Int) < I 56 45 → I 88 j ≠ p) : zNp (zU (zU (zU I 88 N.toNat p) 56 45 (N + 1)) 56 44 x) := by
  intro i j hi hj hij
  rw [zU_at _ _ _ (by omega), zU_same] at hi hj
  rw [zU_row _ _ _ (by omega), zU_row _ _ _ (by omega)] at hij
  by_cases e1 : i = N.toNat
  · by_cases e2 : j = N.toNat
    · omega
    · subst e1
      rw [zU_same, zU_at _ _ _ e2] at hij
      exact absurd hij.symm (hno j (by omega))
  · by_cases e2 : j = N.toNat
    · subst e2
      rw [zU_same, zU_at _ _ _ e1] at hij
      exact absurd hij (hno i (by omega))
    · rw [zU_at _ _ _ e1, zU_at _ _ _ e2] at hij
      exact hn i j (by omega) (by omega) hij
theorem zNp_0 {I : Nat → Nat → Int} (h : I 56 45 = 0) : zNp I := fun i j hi _ _ => by omega
theorem zNp_f {I : Nat → Nat → Int} {x : Int} (hn : zNp I) : zNp (zU I 56 44 x) := by
  intro i j hi hj hij
  rw [zU_at _ _ _ (by omega)] at hi hj
  rw [zU_row _ _ _ (by omega)] at hij
  exact hn i j hi hj hij
theorem zNq_step {I : Nat → Nat → Int} {p v k h : Int} (hh : h = 0 → ∀ j : Nat, (j : Int) < k → I 88 j ≠ p) (h0 : h = 0) (hv : v = I 88 k.toNat) (hne : v ≠ p) (hk : 0 ≤ k) : ∀ j : Nat, (j : Int) < k + 1 → I 88 j ≠ p := by
  intro j hj
  by_cases e : (j : Int) < k
  · exact hh h0 j e
  · have : j = k.toNat := by omega
    subst this
    rw [← hv]; exact hne
/-- of a page's measuring: its two fields and its notes alone have changed -/
def zPg (I I2 : Nat → Nat → Int) : Prop := ∀ a k, (a = 88 ∨ (a = 56 ∧ (k = 44 ∨ k = 45))) ∨ I2 a k = I a k
theorem zPg_rf (I : Nat → Nat → Int) : zPg I I := fun _ _ => Or.inr rfl
theorem zPg_tr {I I2 I3 : Nat → Nat → Int} (h : zPg I I2) (h2 : zPg I2 I3) : zPg I I3 := by
  intro a k
  rcases h2 a k with e | e
  · exact Or.inl e
  · rcases h a k with e2 | e2
    · exact Or.inl e2
    · exact Or.inr (e.trans e2)
theorem zPg_u {I I2 : Nat → Nat → Int} {a k : Nat} {v : Int} (h : zPg I I2) (ha : a = 88 ∨ (a = 56 ∧ (k = 44 ∨ k = 45))) : zPg I (zU I2 a k v) := by
  intro b j
  by_cases e : b = a ∧ j = k
  · obtain ⟨rfl, rfl⟩ := e; exact Or.inl ha
  · rcases h b j with e2 | e2
    · exact Or.inl e2
    · refine Or.inr ?_
      rw [← e2]
      simp [zU, e]
theorem zPg_a {I I2 : Nat → Nat → Int} {k : Nat} {v : Int} (h : zPg I I2) : zPg I (zU I2 88 k v) := zPg_u h (Or.inl rfl)
theorem zPg_f {I I2 : Nat → Nat → Int} {k : Nat} {v : Int} (h : zPg I I2) (hk : k = 44 ∨ k = 45) : zPg I (zU I2 56 k v) := zPg_u h (Or.inr ⟨rfl, hk⟩)
theorem zPg_k {I I2 : Nat → Nat → Int} {k : Nat} {v : Int} (h : zPg I I2) (hk : k ≠ 44 ∧ k ≠ 45) (hv : I 56 k = v) : I2 56 k = v := by
  rw [(h 56 k).resolve_left (by omega)]; exact hv
theorem zFr_pg {I I2 : Nat → Nat → Int} (h : zPg I I2) : zFr I I2 := zFr_q (fun a k => by
  rcases h a k with e | e
  · refine Or.inl ?_
    rcases e with rfl | ⟨rfl, e1⟩
    · exact zNr_a (by decide)
    · exact zNr_f (by omega)
  · exact Or.inr e)
theorem zR88 {n sl : Nat} {T : Nat → zT} {I : Nat → Nat → Int} {P : Nat → Nat → Option Nat} {G : Nat → Nat → Int} (hT : ∀ a, 56 ≤ a → a ≤ 90 → T a = zFix a) (hw : zWf zMd (n, sl, T, I, P, G)) : (∀ k, 0 ≤ I 88 k ∧ I 88 k ≤ 11) ∧ 0 ≤ I 56 45 ∧ I 56 45 ≤ 12 := by
  refine ⟨fun k => ?_, ?_⟩
  · have h1 := hw.2.1 88 k
    rw [show (n, sl, T, I, P, G).2.2.1 88 = T 88 from rfl, hT 88 (by decide) (by decide)] at h1
    exact h1
  · have h1 := hw.2.1 56 45
    rw [show (n, sl, T, I, P, G).2.2.1 56 = T 56 from rfl, hT 56 (by decide) (by decide)] at h1
    exact h1
