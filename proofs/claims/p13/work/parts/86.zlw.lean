/-! the law: what holds between two rounds -/
def zNt (I : Nat → Nat → Int) : Prop := ∀ k : Nat, k < 12 → I 22 k = I 79 k ∧ I 41 k = I 79 (12 + k)
def zLw (i : Int) (n sl : Nat) (T : Nat → zT) (I : Nat → Nat → Int) (P : Nat → Nat → Option Nat) : Prop :=
  90 ≤ n ∧ (∀ a, 1 ≤ a → a ≤ 55 → T a = zFixC a) ∧ (∀ a, 56 ≤ a → a ≤ 90 → T a = zFix a) ∧ zRl I ∧ zCR T I P ∧ I 1 6 = I 56 3 ∧ (0 ≤ I 1 6 ∧ I 1 6 ≤ 1) ∧ zNt I ∧ (n : Int) ≤ 90 + 50 * i ∧ (sl : Int) ≤ 233526 + 900 * i
section ZLW
variable {i : Int} {n sl n2 sl2 : Nat} {T T2 : Nat → zT} {I I2 I3 : Nat → Nat → Int} {P P2 : Nat → Nat → Option Nat}
theorem zRl_row (h : ∀ a, a = 57 ∨ a = 58 ∨ a = 61 ∨ a = 74 ∨ a = 80 ∨ a = 81 → I2 a = I a) (hr : zRl I) : zRl I2 := by
  have e57 := h 57 (by omega)
  have e58 := h 58 (by omega)
  have e61 := h 61 (by omega)
  have e74 := h 74 (by omega)
  have e80 := h 80 (by omega)
  have e81 := h 81 (by omega)
  obtain ⟨h1, h2, h3⟩ := hr
  refine ⟨fun t => ?_, fun i => ?_, fun A r hA hr => ?_⟩
  · rw [e80, e81]; exact h1 t
  · rw [e61, e74]; exact h2 i
  · have h4 := h3 A r hA hr
    have eA : I2 A = I A := by
      rcases hA with rfl | rfl
      · exact e57
      · exact e58
    unfold zRm at h4 ⊢
    rw [eA, e61]; exact h4
theorem zCR_row (h : ∀ a k, a < 56 → a ≠ 22 → a ≠ 41 → ¬ (a = 1 ∧ k = 9) → I2 a k = I a k) (hr : zCR T I P) : zCR T I2 P := by
  obtain ⟨g1, g2, g3⟩ := hr
  refine ⟨?_, g2, fun x hx => ?_⟩
  · rw [h 1 6 (by omega) (by omega) (by omega) (by omega)]; exact g1
  · exact zFlr_eq (g3 x hx) (zTm_rf _) (h x 6 (by omega) (by omega) (by omega) (by omega)) (h x 8 (by omega) (by omega) (by omega) (by omega)) (h x 10 (by omega) (by omega) (by omega) (by omega)) (fun k => ⟨rfl, rfl, rfl⟩)
theorem zLw_T (h : zLw i n sl T I P) (f : zTn n T T2) : ∀ a, 56 ≤ a → a ≤ 90 → T2 a = zFix a := fun a h1 h2 => (f a (by have := h.1; omega)).trans (h.2.2.1 a h1 h2)
theorem zLw_R (h : zLw i n sl T I P) (f : zCP n T T2 I I2 P P2) : zRl I2 := zRl_row (fun a ha => funext fun k => f.2.2 a k (by omega)) h.2.2.2.1
/-- a call of the class and one of the reference -/
theorem zLw_s (h : zLw i n sl T I P) (f : zCP n T T2 I I2 P P2) (b : n ≤ n2 ∧ n2 ≤ n + 300 ∧ sl2 ≤ sl + 5400) (r : zFr I2 I3) : zLw (i + 6) n2 sl2 T2 I3 P2 := by
  have hR := r.2 (zLw_R h f)
  obtain ⟨h1, h2, h3, h4, h5, h6, h7, h8, h9, h10⟩ := h
  have e : ∀ a k, ¬ zMo a k → I3 a k = I2 a k := fun a k hm => (r.1 a k).resolve_left hm
  have e1 : I3 1 6 = I 1 6 := (e 1 6 (by unfold zMo; omega)).trans (f.2.2 1 6 (by omega))
  have e2 : I3 56 3 = I 56 3 := (e 56 3 (by unfold zMo; omega)).trans (f.2.2 56 3 (by omega))
  refine ⟨by omega, fun a x y => (f.1 a (by omega)).trans (h2 a x y), fun a x y => (f.1 a (by omega)).trans (h3 a x y), hR, zCR_row (fun a k ha _ _ _ => e a k (fun hm => by unfold zMo at hm; omega)) (f.2.1 h5), by rw [e1, e2]; exact h6, by rw [e1]; exact h7, fun k hk => ?_, by omega, by omega⟩
  rw [e 22 k (by unfold zMo; omega), e 41 k (by unfold zMo; omega), e 79 k (by unfold zMo; omega), e 79 (12 + k) (by unfold zMo; omega), f.2.2 22 k (by omega), f.2.2 41 k (by omega), f.2.2 79 k (by omega), f.2.2 79 (12 + k) (by omega)]
  exact h8 k hk
theorem zLw_room {a e e2 : Int} (h : zLw i n sl T I P) (c1 : 0 ≤ a ∧ a ≤ 1 → e = I 1 6 ∧ I2 1 6 = a) (c2 : ¬ (0 ≤ a ∧ a ≤ 1) → e = -1 ∧ I2 1 6 = I 1 6) (c3 : zCR T I P → zCR T I2 P2) (c4 : ∀ x k, x = 22 ∨ x = 41 ∨ (56 ≤ x ∧ x ≤ 90) → I2 x k = I x k)
    (d1 : 0 ≤ a ∧ a ≤ 1 → e2 = I2 56 3 ∧ I3 56 3 = a) (d2 : ¬ (0 ≤ a ∧ a ≤ 1) → e2 = -1 ∧ I3 56 3 = I2 56 3) (d3 : zRf I2 I3) : e = e2 ∧ zR e ∧ zLw (i + 6) n sl T I3 P2 := by
  obtain ⟨h1, h2, h3, h4, h5, h6, h7, h8, h9, h10⟩ := h
  have e3 : I2 56 3 = I 56 3 := c4 56 3 (by omega)
  have q : ∀ b k, ¬ (b = 56 ∧ (k = 3 ∨ k = 4)) → I3 b k = I2 b k := fun b k hb => (d3 b k).resolve_left hb
  have e1 : I3 1 6 = I2 1 6 := q 1 6 (by omega)
  have hR : zRl I3 := zRl_row (fun b hb => funext fun k => (q b k (by omega)).trans (c4 b k (by omega))) h4
  have hCR : zCR T I3 P2 := zCR_row (fun b k hb _ _ _ => q b k (by omega)) (c3 h5)
  have hN : zNt I3 := fun k hk => by
    rw [q 22 k (by omega), q 41 k (by omega), q 79 k (by omega), q 79 (12 + k) (by omega), c4 22 k (by omega), c4 41 k (by omega), c4 79 k (by omega), c4 79 (12 + k) (by omega)]
    exact h8 k hk
  by_cases ha : 0 ≤ a ∧ a ≤ 1
  · obtain ⟨x1, x2⟩ := c1 ha
    obtain ⟨y1, y2⟩ := d1 ha
    exact ⟨by omega, by unfold zR; omega, h1, h2, h3, hR, hCR, by omega, by omega, hN, by omega, by omega⟩
  · obtain ⟨x1, x2⟩ := c2 ha
    obtain ⟨y1, y2⟩ := d2 ha
    exact ⟨by omega, by unfold zR; omega, h1, h2, h3, hR, hCR, by omega, by omega, hN, by omega, by omega⟩
theorem zLw_note {a c e e2 : Int} (h : zLw i n sl T I P) (c1 : (0 ≤ a ∧ a ≤ 11 ∧ 0 ≤ c ∧ c ≤ 9) → e = I (22 + 19 * (I 1 6).toNat) a.toNat ∧ ∀ k, I2 (22 + 19 * (I 1 6).toNat) k = if k = a.toNat then c else I (22 + 19 * (I 1 6).toNat) k) (c2 : ¬ (0 ≤ a ∧ a ≤ 11 ∧ 0 ≤ c ∧ c ≤ 9) → e = -1 ∧ ∀ k, I2 22 k = I 22 k ∧ I2 41 k = I 41 k) (c3 : ∀ x k, x ≠ (22 + 19 * (I 1 6).toNat) → ¬ (x = 1 ∧ k = 9) → I2 x k = I x k)
    (d1 : 0 ≤ a ∧ a ≤ 11 ∧ 0 ≤ c ∧ c ≤ 9 → e2 = I2 79 (12 * I2 56 3 + a).toNat ∧ I3 79 = zU I2 79 (12 * I2 56 3 + a).toNat c 79) (d2 : ¬ (0 ≤ a ∧ a ≤ 11 ∧ 0 ≤ c ∧ c ≤ 9) → e2 = -1 ∧ I3 79 = I2 79) (d3 : zNf I2 I3) : e = e2 ∧ zLw (i + 6) n sl T I3 P := by
  obtain ⟨h1, h2, h3, h4, h5, h6, h7, h8, h9, h10⟩ := h
  have q : ∀ b k, ¬ (b = 79 ∨ (b = 56 ∧ k = 4)) → I3 b k = I2 b k := fun b k hb => (d3 b k).resolve_left hb
  obtain ⟨w, hw, hw2⟩ : ∃ w : Nat, 22 + 19 * (I 1 6).toNat = w ∧ ((I 1 6 = 0 ∧ w = 22) ∨ (I 1 6 = 1 ∧ w = 41)) := ⟨_, rfl, by omega⟩
  rw [hw] at c1 c3
  have e1 : I3 1 6 = I 1 6 := (q 1 6 (by omega)).trans (c3 1 6 (by omega) (by omega))
  have e56 : I2 56 3 = I 56 3 := c3 56 3 (by omega) (by omega)
  have e3 : I3 56 3 = I 56 3 := (q 56 3 (by omega)).trans e56
  have r79 : I2 79 = I 79 := funext fun k => c3 79 k (by omega) (by omega)
  have hR : zRl I3 := zRl_row (fun b hb => funext fun k => (q b k (by omega)).trans (c3 b k (by omega) (by omega))) h4
  have hCR : zCR T I3 P := zCR_row (fun b k hb n22 n41 n19 => (q b k (by omega)).trans (c3 b k (by omega) n19)) h5
  have fin : e = e2 → zNt I3 → e = e2 ∧ zLw (i + 6) n sl T I3 P := fun x y => ⟨x, h1, h2, h3, hR, hCR, by rw [e1, e3]; exact h6, by rw [e1]; exact h7, y, by omega, by omega⟩
  by_cases ha : 0 ≤ a ∧ a ≤ 11 ∧ 0 ≤ c ∧ c ≤ 9
  · obtain ⟨x1, x2⟩ := c1 ha
    obtain ⟨y1, y2⟩ := d1 ha
    rw [e56, ← h6] at y1 y2
    rw [r79] at y1
    have y3 : ∀ j, I3 79 j = if j = (12 * I 1 6 + a).toNat then c else I 79 j := fun j => by
      rw [y2]
      by_cases ej : j = (12 * I 1 6 + a).toNat
      · rw [if_pos ej, ej]; simp [zU]
      · rw [if_neg ej, zU_nk ej, r79]
    have h8a := h8 a.toNat (by omega)
    rcases hw2 with ⟨r0, rfl⟩ | ⟨r0, rfl⟩
    · rw [r0] at y1 y3
      have ix : (12 * (0 : Int) + a).toNat = a.toNat := by omega
      rw [ix] at y1 y3
      refine fin (by rw [x1, y1]; exact h8a.1) (fun k hk => ⟨?_, ?_⟩)
      · rw [q 22 k (by omega), x2 k, y3 k]
        by_cases ek : k = a.toNat
        · rw [if_pos ek, if_pos ek]
        · rw [if_neg ek, if_neg ek]; exact (h8 k hk).1
      · rw [q 41 k (by omega), c3 41 k (by omega) (by omega), y3 (12 + k), if_neg (by omega)]; exact (h8 k hk).2
    · rw [r0] at y1 y3
      have ix : (12 * (1 : Int) + a).toNat = 12 + a.toNat := by omega
      rw [ix] at y1 y3
      refine fin (by rw [x1, y1]; exact h8a.2) (fun k hk => ⟨?_, ?_⟩)
      · rw [q 22 k (by omega), c3 22 k (by omega) (by omega), y3 k, if_neg (by omega)]; exact (h8 k hk).1
      · rw [q 41 k (by omega), x2 k, y3 (12 + k)]
        by_cases ek : k = a.toNat
        · rw [if_pos ek, if_pos (by omega)]
        · rw [if_neg ek, if_neg (by omega)]; exact (h8 k hk).2
  · obtain ⟨x1, x2⟩ := c2 ha
    obtain ⟨y1, y2⟩ := d2 ha
    refine fin (by omega) (fun k hk => ?_)
    rw [q 22 k (by omega), q 41 k (by omega), y2, r79, (x2 k).1, (x2 k).2]
    exact h8 k hk
theorem zLw_0 (h : zLw i n sl T I P) : zLw (i + 6) n sl T I P := by
  obtain ⟨h1, h2, h3, h4, h5, h6, h7, h8, h9, h10⟩ := h
  exact ⟨h1, h2, h3, h4, h5, h6, h7, h8, by omega, by omega⟩
end ZLW
