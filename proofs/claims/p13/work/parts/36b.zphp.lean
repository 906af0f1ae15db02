/-! as many different numbers as there are -/
theorem zPhp : ∀ (N m : Nat) (f : Nat → Int), (∀ i, i < m → 0 ≤ f i ∧ f i < N) → (∀ i j, i < m → j < m → f i = f j → i = j) → m ≤ N
  | 0, m, f, h, _ => by
    cases m with
    | zero => omega
    | succ m => have := h 0 (by omega); omega
  | N + 1, m, f, h, inj => by
    by_cases hx : ∃ i, i < m ∧ f i = N
    · obtain ⟨i0, hi, he⟩ := hx
      have key := zPhp N (m - 1) (fun i => if i = i0 then f (m - 1) else f i) (by
        intro i hi2
        by_cases e : i = i0
        · simp only [e, if_true]
          have h1 := h (m - 1) (by omega)
          have h2 : f (m - 1) ≠ N := fun e2 => by
            have := inj (m - 1) i0 (by omega) hi (by omega)
            omega
          omega
        · simp only [e, if_false]
          have h1 := h i (by omega)
          have h2 : f i ≠ N := fun e2 => e (inj i i0 (by omega) hi (by omega))
          omega) (by
        intro i j hi2 hj2 hij
        by_cases e1 : i = i0
        · by_cases e2 : j = i0
          · omega
          · simp only [e1, e2, if_true, if_false] at hij
            have := inj (m - 1) j (by omega) (by omega) hij
            omega
        · by_cases e2 : j = i0
          · simp only [e1, e2, if_true, if_false] at hij
            have := inj i (m - 1) (by omega) (by omega) hij
            omega
          · simp only [e1, e2, if_false] at hij
            exact inj i j (by omega) (by omega) hij)
      omega
    · have := zPhp N m f (fun i hi => by
        have h1 := h i hi
        have h2 : f i ≠ N := fun e => hx ⟨i, hi, e⟩
        omega) inj
      omega
/-- the notes of a line: different ones -/
def zNd (I : Nat → Nat → Int) : Prop := ∀ i j : Nat, (i : Int) < I 56 33 → (j : Int) < I 56 33 → I 83 i = I 83 j → i = j
theorem zNd_lt {I : Nat → Nat → Int} {p : Int} (hn : zNd I) (hr : ∀ k, 0 ≤ I 83 k ∧ I 83 k ≤ 11) (hp : 0 ≤ p ∧ p ≤ 11) (hno : ∀ j : Nat, (j : Int) < I 56 33 → I 83 j ≠ p) : I 56 33 ≤ 11 := by
  by_cases h0 : I 56 33 ≤ 0
  · omega
  · have key := zPhp 12 ((I 56 33).toNat + 1) (fun i => if i = (I 56 33).toNat then p else I 83 i) (by
      intro i hi
      by_cases e : i = (I 56 33).toNat
      · simp only [e, if_true]; omega
      · simp only [e, if_false]; have := hr i; omega) (by
      intro i j hi hj hij
      by_cases e1 : i = (I 56 33).toNat
      · by_cases e2 : j = (I 56 33).toNat
        · omega
        · simp only [e1, e2, if_true, if_false] at hij
          exact absurd hij.symm (hno j (by omega))
      · by_cases e2 : j = (I 56 33).toNat
        · simp only [e1, e2, if_true, if_false] at hij
          exact absurd hij (hno i (by omega))
        · simp only [e1, e2, if_false] at hij
          exact hn i j (by omega) (by omega) hij)
    omega
theorem zNd_put {I : Nat → Nat → Int} {p : Int} {k : Nat} (hn : zNd I) (hk : I 56 33 = k) (hno : ∀ j : Nat, (j : Int) < I 56 33 → I 83 j ≠ p) : zNd (zU (zU I 83 k p) 56 33 (k + 1)) := by
  intro i j hi hj hij
  rw [zU_same] at hi hj
  rw [zU_row _ _ _ (by omega)] at hij
  by_cases e1 : i = k
  · by_cases e2 : j = k
    · omega
    · subst e1
      rw [zU_same, zU_at _ _ _ e2] at hij
      exact absurd hij.symm (hno j (by omega))
  · by_cases e2 : j = k
    · subst e2
      rw [zU_same, zU_at _ _ _ e1] at hij
      exact absurd hij (hno i (by omega))
    · rw [zU_at _ _ _ e1, zU_at _ _ _ e2] at hij
      exact hn i j (by omega) (by omega) hij
theorem zNn_step {I : Nat → Nat → Int} {p v k h : Int} (hh : h = 0 → ∀ j : Nat, (j : Int) < k → I 83 j ≠ p) (h0 : h = 0) (hv : v = I 83 k.toNat) (hne : v ≠ p) (hk : 0 ≤ k) : ∀ j : Nat, (j : Int) < k + 1 → I 83 j ≠ p := by
  intro j hj
  by_cases e : (j : Int) < k
  · exact hh h0 j e
  · have : j = k.toNat := by omega
    subst this
    rw [← hv]; exact hne
