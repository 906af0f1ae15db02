/-! breaks, lines -/
def zCm (I I2 : Nat → Nat → Int) : Prop := ∀ a k, ¬ (a = 9 ∧ 9 ≤ k ∧ k ≤ 13) → I2 a k = I a k
theorem zCm_rf {I : Nat → Nat → Int} : zCm I I := fun _ _ _ => rfl
theorem zCm_tr {I I2 I3 : Nat → Nat → Int} (h : zCm I I2) (h2 : zCm I2 I3) : zCm I I3 := fun a k hk => by rw [h2 a k hk, h a k hk]
theorem zCm_u {I I2 : Nat → Nat → Int} {k : Nat} {v : Int} (h : zCm I I2) (hk : 9 ≤ k ∧ k ≤ 13) : zCm I (zU I2 9 k v) := fun a j hj => by
  have e : ¬ (a = 9 ∧ j = k) := by omega
  rw [← h a j hj]; simp [zU, e]
def zMs (un q : Int) (I : Nat → Nat → Int) : Prop := (0 ≤ I 9 10 ∧ I 9 10 ≤ q) ∧ (0 ≤ I 9 11 ∧ I 9 11 ≤ q) ∧ (0 ≤ I 9 12 ∧ I 9 12 ≤ q) ∧ (-1 ≤ I 9 13 ∧ I 9 13 < un)
theorem zMs_in {un q a b s e : Int} {I : Nat → Nat → Int} (h10 : I 9 10 = a) (h11 : I 9 11 = b) (h12 : I 9 12 = s) (h13 : I 9 13 = e) (ha : 0 ≤ a ∧ a ≤ q) (hb : 0 ≤ b ∧ b ≤ q) (hs : 0 ≤ s ∧ s ≤ q) (he : -1 ≤ e ∧ e < un) : zMs un q I := by
  unfold zMs; rw [h10, h11, h12, h13]; exact ⟨ha, hb, hs, he⟩
theorem zMs_r {un q : Int} {I : Nat → Nat → Int} {a k : Nat} {v : Int} (h : zMs un q I) (ha : 9 ≠ a) : zMs un q (zU I a k v) := by
  unfold zMs; rw [zU_row _ _ _ ha]; exact h
/-- where a line that begins at f ends -/
def zNx (c f : Int) (I : Nat → Nat → Int) : Prop := (f < I 12 f.toNat ∨ c = 0) ∧ (0 ≤ I 12 f.toNat ∧ I 12 f.toNat ≤ c) ∧ (I 12 f.toNat = c ∨ I 6 (I 12 f.toNat - 1).toNat = 2 ∨ I 6 (I 12 f.toNat - 1).toNat = 6)
theorem zNx_eq {c f : Int} {I I2 : Nat → Nat → Int} (h : zNx c f I) (h12 : I2 12 f.toNat = I 12 f.toNat) (h6 : ∀ j, I2 6 j = I 6 j) : zNx c f I2 := by
  unfold zNx; rw [h12, h6]; exact h
theorem zNx_new {c f v : Int} {I : Nat → Nat → Int} (hv : (f < v ∨ c = 0) ∧ (0 ≤ v ∧ v ≤ c) ∧ (v = c ∨ I 6 (v - 1).toNat = 2 ∨ I 6 (v - 1).toNat = 6)) (h6 : ∀ j, I 6 j = I 6 j) : zNx c f (zU I 12 f.toNat v) := by
  unfold zNx; rw [zU_same, zU_row _ _ _ (by omega)]; exact hv
def zCe (f : Int) (I I2 : Nat → Nat → Int) : Prop := ∀ a k, ¬ (a = 9 ∧ 9 ≤ k ∧ k ≤ 13) → a ≠ 11 → ¬ (a = 12 ∧ k = f.toNat) → I2 a k = I a k
theorem zCe_rf {f : Int} {I : Nat → Nat → Int} : zCe f I I := fun _ _ _ _ _ => rfl
theorem zCe_tr {f : Int} {I I2 I3 : Nat → Nat → Int} (h : zCe f I I2) (h2 : zCe f I2 I3) : zCe f I I3 := fun a k h1 h3 h4 => by rw [h2 a k h1 h3 h4, h a k h1 h3 h4]
theorem zCe_m {f : Int} {I I2 I3 : Nat → Nat → Int} (h : zCe f I I2) (h2 : zCm I2 I3) : zCe f I I3 := fun a k h1 h3 h4 => by rw [h2 a k h1, h a k h1 h3 h4]
theorem zCe_u {f : Int} {I I2 : Nat → Nat → Int} {a k : Nat} {v : Int} (h : zCe f I I2) (ha : a = 11 ∨ (a = 12 ∧ k = f.toNat) ∨ (a = 9 ∧ 9 ≤ k ∧ k ≤ 13)) : zCe f I (zU I2 a k v) := fun b j h1 h3 h4 => by
  have e : ¬ (b = a ∧ j = k) := by omega
  rw [← h b j h1 h3 h4]; simp [zU, e]
/-- all places from which a line may begin, above f -/
def zAllN (c f : Int) (I : Nat → Nat → Int) : Prop := ∀ j : Int, f < j → j < c → 1 ≤ j → (I 6 (j - 1).toNat = 2 ∨ I 6 (j - 1).toNat = 6) → zNx c j I
def zCf (I I2 : Nat → Nat → Int) : Prop := ∀ a k, ¬ (a = 9 ∧ 9 ≤ k ∧ k ≤ 13) → a ≠ 11 → a ≠ 12 → I2 a k = I a k
theorem zCf_s {f : Int} {I I2 I3 : Nat → Nat → Int} (h : zCf I I2) (h2 : zCe f I2 I3) : zCf I I3 := fun a k h1 h3 h4 => by rw [h2 a k h1 h3 (by omega), h a k h1 h3 h4]
theorem zAllN_s {c f : Int} {I I2 : Nat → Nat → Int} (h0 : 0 ≤ f) (h : zAllN c f I) (hc : zCe f I I2) (hn : zNx c f I2) : zAllN c (f + -1) I2 := by
  intro j h1 h2 h3 h4
  by_cases e : j = f
  · subst e; exact hn
  · have h6 : ∀ i, I2 6 i = I 6 i := fun i => hc 6 i (by omega) (by omega) (by omega)
    rw [h6] at h4
    exact zNx_eq (h j (by omega) h2 h3 h4) (hc 12 _ (by omega) (by omega) (by omega)) h6
theorem zAllN_k {c f : Int} {I : Nat → Nat → Int} (h : zAllN c f I) (hk : ¬ (I 6 (f - 1).toNat = 2 ∨ I 6 (f - 1).toNat = 6)) : zAllN c (f + -1) I := by
  intro j h1 h2 h3 h4
  by_cases e : j = f
  · subst e; exact absurd h4 hk
  · exact h j (by omega) h2 h3 h4
theorem zAllN_e {c : Int} {I I2 : Nat → Nat → Int} (h : zAllN c 0 I) (hc : zCe 0 I I2) : zAllN c 0 I2 := by
  intro j h1 h2 h3 h4
  have h6 : ∀ i, I2 6 i = I 6 i := fun i => hc 6 i (by omega) (by omega) (by omega)
  rw [h6] at h4
  exact zNx_eq (h j (by omega) h2 h3 h4) (hc 12 _ (by omega) (by omega) (by omega)) h6
/-- so many lines from a place to the end -/
def zRmn (I : Nat → Nat → Int) (c : Int) : Nat → Int → Prop
  | 0, a => a = c
  | m + 1, a => (a < c ∨ a = 0) ∧ zRmn I c m (I 12 a.toNat)
/-- a place from which a line begins -/
def zPl (c a : Int) (I : Nat → Nat → Int) : Prop := a = 0 ∨ a = c ∨ (1 ≤ a ∧ a < c ∧ (I 6 (a - 1).toNat = 2 ∨ I 6 (a - 1).toNat = 6))
theorem zPl_nx {c a : Int} {I : Nat → Nat → Int} (hp : zPl c a I) (h0 : zNx c 0 I) (h : zAllN c 0 I) (hac : a < c ∨ a = 0) : zNx c a I := by
  rcases hp with e | e | e
  · subst e; exact h0
  · by_cases e0 : a = 0
    · subst e0; exact h0
    · omega
  · exact h a (by omega) e.2.1 e.1 e.2.2
theorem zPl_s {c a : Int} {I : Nat → Nat → Int} (hn : zNx c a I) : zPl c (I 12 a.toNat) I := by
  obtain ⟨h1, h2, h3⟩ := hn
  by_cases e : I 12 a.toNat = c
  · exact Or.inr (Or.inl e)
  · by_cases e0 : I 12 a.toNat = 0
    · exact Or.inl e0
    · exact Or.inr (Or.inr ⟨by omega, by omega, h3.resolve_left e⟩)
