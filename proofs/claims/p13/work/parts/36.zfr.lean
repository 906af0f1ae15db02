/-! what a method of the reference leaves as it was, and what holds of its cells together -/
def zSum (f : Nat → Int) (o d : Nat) : Nat → Int
  | 0 => 0
  | k + 1 => zSum f o d k + f (o + d * k)
theorem zSum_eq {f g : Nat → Int} {o d : Nat} : ∀ {k : Nat}, (∀ j, j < k → g (o + d * j) = f (o + d * j)) → zSum g o d k = zSum f o d k
  | 0, _ => rfl
  | k + 1, h => by
    show zSum g o d k + g (o + d * k) = zSum f o d k + f (o + d * k)
    rw [zSum_eq (fun j hj => h j (by omega)), h k (by omega)]
/-- tokens that are calls bear a paragraph's number -/
def zTok (I : Nat → Nat → Int) : Prop := ∀ t, I 80 t = 7 → 0 ≤ I 81 t ∧ I 81 t ≤ 11
/-- a room's counts, in the array A from b on: lines that are locked up, pages' lines, lines' founts -/
def zRm (I : Nat → Nat → Int) (A b r : Nat) : Prop := (0 ≤ I A (b + 164) ∧ I A (b + 164) ≤ 89) ∧ (0 ≤ I A (b + 165) ∧ I A (b + 165) ≤ 89) ∧ (0 ≤ I A (b + 166) ∧ I A (b + 166) ≤ 12) ∧
  I A (b + 167) = zSum (I A) (b + 1901) 2 (I A (b + 166)).toNat ∧ (I A (b + 165) = 0 ∨ zSum (I A) (b + 171) 17 (I A (b + 165)).toNat = I A (b + 164)) ∧
  (∀ l : Nat, (l : Int) < I A (b + 164) → 0 ≤ I 61 (4 * r + (I A (b + 1941 + 66 * l)).toNat))
def zRl (I : Nat → Nat → Int) : Prop := zTok I ∧ (∀ i, i < 8 → 0 ≤ I 61 i → 1 ≤ I 74 i) ∧ (∀ A r, (A = 57 ∨ A = 58) → r < 2 → zRm I A (56100 * r) r)
/-- places of 'now' and 'kept' of which zRm says nothing -/
def zNo (o : Nat) : Prop := o < 164 ∨ o = 168 ∨ o = 169 ∨ (1940 ≤ o ∧ (o - 1940) % 66 ≠ 1)
def zMo (a k : Nat) : Prop := 56 ≤ a ∧ a ≤ 90 ∧ a ≠ 79 ∧ ¬ (a = 56 ∧ k = 3)
def zNr (a k : Nat) : Prop := zMo a k ∧ a ≠ 80 ∧ a ≠ 81 ∧ a ≠ 61 ∧ a ≠ 74 ∧ ((a = 57 ∨ a = 58) → zNo (k % 56100))
def zQ (I I2 : Nat → Nat → Int) : Prop := ∀ a k, zNr a k ∨ I2 a k = I a k
theorem zQ_at {I I2 : Nat → Nat → Int} (h : zQ I I2) {a k : Nat} (hn : ¬ zNr a k) : I2 a k = I a k := (h a k).resolve_left hn
theorem zRl_q {I I2 : Nat → Nat → Int} (h : zQ I I2) (hr : zRl I) : zRl I2 := by
  obtain ⟨h1, h2, h3⟩ := hr
  have e80 : ∀ t, I2 80 t = I 80 t := fun t => zQ_at h (fun hn => hn.2.1 rfl)
  have e81 : ∀ t, I2 81 t = I 81 t := fun t => zQ_at h (fun hn => hn.2.2.1 rfl)
  have e61 : ∀ t, I2 61 t = I 61 t := fun t => zQ_at h (fun hn => hn.2.2.2.1 rfl)
  have e74 : ∀ t, I2 74 t = I 74 t := fun t => zQ_at h (fun hn => hn.2.2.2.2.1 rfl)
  refine ⟨?_, ?_, ?_⟩
  · intro t; rw [e80, e81]; exact h1 t
  · intro i; rw [e61, e74]; exact h2 i
  · intro A r hA hr
    have eA : ∀ k, ¬ zNo (k % 56100) → I2 A k = I A k := fun k hk => zQ_at h (fun hn => hk (hn.2.2.2.2.2 hA))
    obtain ⟨g1, g2, g3, g4, g5, g6⟩ := h3 A r hA hr
    have e164 : I2 A (56100 * r + 164) = I A (56100 * r + 164) := eA _ (by unfold zNo; omega)
    have e165 : I2 A (56100 * r + 165) = I A (56100 * r + 165) := eA _ (by unfold zNo; omega)
    have e166 : I2 A (56100 * r + 166) = I A (56100 * r + 166) := eA _ (by unfold zNo; omega)
    have e167 : I2 A (56100 * r + 167) = I A (56100 * r + 167) := eA _ (by unfold zNo; omega)
    have s1 : zSum (I2 A) (56100 * r + 1901) 2 (I A (56100 * r + 166)).toNat = zSum (I A) (56100 * r + 1901) 2 (I A (56100 * r + 166)).toNat := zSum_eq (fun j hj => eA _ (by unfold zNo; omega))
    have s2 : zSum (I2 A) (56100 * r + 171) 17 (I A (56100 * r + 165)).toNat = zSum (I A) (56100 * r + 171) 17 (I A (56100 * r + 165)).toNat := zSum_eq (fun j hj => eA _ (by unfold zNo; omega))
    unfold zRm
    rw [e164, e165, e166, e167, s1, s2]
    refine ⟨g1, g2, g3, g4, g5, ?_⟩
    intro l hl
    have el : I2 A (56100 * r + 1941 + 66 * l) = I A (56100 * r + 1941 + 66 * l) := eA _ (by unfold zNo; omega)
    rw [el, e61]
    exact g6 l hl
def zFr (I I2 : Nat → Nat → Int) : Prop := (∀ a k, zMo a k ∨ I2 a k = I a k) ∧ (zRl I → zRl I2)
theorem zFr_rf (I : Nat → Nat → Int) : zFr I I := ⟨fun _ _ => Or.inr rfl, fun h => h⟩
theorem zFr_tr {I I2 I3 : Nat → Nat → Int} (h : zFr I I2) (h2 : zFr I2 I3) : zFr I I3 := by
  refine ⟨?_, fun hr => h2.2 (h.2 hr)⟩
  intro a k
  rcases h2.1 a k with e | e
  · exact Or.inl e
  · rcases h.1 a k with e2 | e2
    · exact Or.inl e2
    · exact Or.inr (e.trans e2)
theorem zFr_q {I I2 : Nat → Nat → Int} (h : zQ I I2) : zFr I I2 := by
  refine ⟨fun a k => ?_, zRl_q h⟩
  rcases h a k with e | e
  · exact Or.inl e.1
  · exact Or.inr e
theorem zQ_rf (I : Nat → Nat → Int) : zQ I I := fun _ _ => Or.inr rfl
theorem zQ_u {I I2 : Nat → Nat → Int} {a k : Nat} {v : Int} (h : zQ I I2) (ha : zNr a k) : zQ I (zU I2 a k v) := by
  intro b j
  by_cases e : b = a ∧ j = k
  · obtain ⟨rfl, rfl⟩ := e; exact Or.inl ha
  · rcases h b j with e2 | e2
    · exact Or.inl e2
    · refine Or.inr ?_
      rw [← e2]
      simp [zU, e]
theorem zFr_u {I I2 : Nat → Nat → Int} {a k : Nat} {v : Int} (h : zFr I I2) (ha : zNr a k) : zFr I (zU I2 a k v) := zFr_tr h (zFr_q (zQ_u (zQ_rf I2) ha))
theorem zNr_a {a k : Nat} (ha : 59 ≤ a ∧ a ≤ 90 ∧ a ≠ 61 ∧ a ≠ 74 ∧ a ≠ 79 ∧ a ≠ 80 ∧ a ≠ 81) : zNr a k := ⟨⟨by omega, by omega, by omega, by omega⟩, by omega, by omega, by omega, by omega, by omega⟩
theorem zNr_f {k : Nat} (hk : k ≠ 3) : zNr 56 k := ⟨⟨by omega, by omega, by omega, by omega⟩, by omega, by omega, by omega, by omega, by omega⟩
theorem zNr_n {a k : Nat} (ha : a = 57 ∨ a = 58) (hk : k % 56100 < 164 ∨ k % 56100 = 168 ∨ k % 56100 = 169 ∨ (1940 ≤ k % 56100 ∧ (k % 56100 - 1940) % 66 ≠ 1)) : zNr a k := ⟨⟨by omega, by omega, by omega, by omega⟩, by omega, by omega, by omega, by omega, fun _ => hk⟩
theorem zFr_a {I I2 : Nat → Nat → Int} {a k : Nat} {v : Int} (h : zFr I I2) (ha : 59 ≤ a ∧ a ≤ 90 ∧ a ≠ 61 ∧ a ≠ 74 ∧ a ≠ 79 ∧ a ≠ 80 ∧ a ≠ 81) : zFr I (zU I2 a k v) := zFr_u h (zNr_a ha)
theorem zFr_f {I I2 : Nat → Nat → Int} {k : Nat} {v : Int} (h : zFr I I2) (hk : k ≠ 3) : zFr I (zU I2 56 k v) := zFr_u h (zNr_f hk)
theorem zFr_n {I I2 : Nat → Nat → Int} {k : Nat} {v : Int} (h : zFr I I2) (hk : k % 56100 < 164 ∨ k % 56100 = 168 ∨ k % 56100 = 169 ∨ (1940 ≤ k % 56100 ∧ (k % 56100 - 1940) % 66 ≠ 1)) : zFr I (zU I2 57 k v) := zFr_u h (zNr_n (Or.inl rfl) hk)
/-- a height that is set is 1 at least -/
theorem zFr_h {I I2 : Nat → Nat → Int} {k : Nat} {v : Int} (h : zFr I I2) (hv : 1 ≤ v) : zFr I (zU I2 74 k v) := by
  refine zFr_tr h ⟨fun a j => ?_, fun hr => ?_⟩
  · by_cases e : a = 74 ∧ j = k
    · obtain ⟨rfl, rfl⟩ := e; exact Or.inl ⟨by omega, by omega, by omega, by omega⟩
    · exact Or.inr (by simp [zU, e])
  · obtain ⟨h1, h2, h3⟩ := hr
    refine ⟨fun t => h1 t, fun i hi hl => ?_, fun A r hA hr => ?_⟩
    · by_cases e : i = k
      · subst e; rw [zU_same]; exact hv
      · rw [zU_at _ _ _ e]; exact h2 i hi hl
    · have eA : zU I2 74 k v A = I2 A := zU_row _ _ _ (by omega)
      have e61 : zU I2 74 k v 61 = I2 61 := zU_row _ _ _ (by omega)
      unfold zRm
      rw [eA, e61]
      exact h3 A r hA hr
/-- a fount that is bought: its letters, and a height -/
theorem zFr_fount {I I2 : Nat → Nat → Int} {i : Nat} {v : Int} (hq : zQ (zU I 61 i v) I2) (hv : 0 ≤ v) : zFr I (zU I2 74 i 1) := by
  have e74 : ∀ t, I2 74 t = I 74 t := fun t => by
    rw [zQ_at hq (fun hn => hn.2.2.2.2.1 rfl), zU_row _ _ _ (by omega)]
  have e61 : ∀ t, I2 61 t = zU I 61 i v 61 t := fun t => zQ_at hq (fun hn => hn.2.2.2.1 rfl)
  have eo : ∀ a, a ≠ 61 → a ≠ 74 → ∀ k, zNr a k ∨ zU I2 74 i 1 a k = I a k := fun a h1 h2 k => by
    rw [zU_row _ _ _ h2]
    rcases hq a k with e | e
    · exact Or.inl e
    · exact Or.inr (by rw [e, zU_row _ _ _ h1])
  refine ⟨fun a k => ?_, fun hr => ?_⟩
  · by_cases e1 : a = 61
    · exact Or.inl ⟨by omega, by omega, by omega, by omega⟩
    · by_cases e2 : a = 74
      · exact Or.inl ⟨by omega, by omega, by omega, by omega⟩
      · rcases eo a e1 e2 k with e | e
        · exact Or.inl e.1
        · exact Or.inr e
  · obtain ⟨h1, h2, h3⟩ := hr
    have o80 : ∀ t, zU I2 74 i 1 80 t = I 80 t := fun t => (eo 80 (by omega) (by omega) t).resolve_left (fun hn => hn.2.1 rfl)
    have o81 : ∀ t, zU I2 74 i 1 81 t = I 81 t := fun t => (eo 81 (by omega) (by omega) t).resolve_left (fun hn => hn.2.2.1 rfl)
    have l61 : ∀ t, 0 ≤ I 61 t → 0 ≤ zU I2 74 i 1 61 t := fun t ht => by
      rw [zU_row _ _ _ (by omega), e61]
      by_cases e : t = i
      · subst e; rw [zU_same]; exact hv
      · rw [zU_at _ _ _ e]; exact ht
    refine ⟨fun t => by rw [o80, o81]; exact h1 t, fun t ht hl => ?_, fun A r hA hr => ?_⟩
    · by_cases e : t = i
      · subst e; rw [zU_same]; omega
      · rw [zU_at _ _ _ e, e74]
        refine h2 t ht ?_
        rw [zU_row _ _ _ (by omega), e61, zU_at _ _ _ e] at hl
        exact hl
    · have eA : ∀ k, ¬ zNo (k % 56100) → zU I2 74 i 1 A k = I A k := fun k hk => (eo A (by omega) (by omega) k).resolve_left (fun hn => hk (hn.2.2.2.2.2 hA))
      obtain ⟨g1, g2, g3, g4, g5, g6⟩ := h3 A r hA hr
      have e164 : zU I2 74 i 1 A (56100 * r + 164) = I A (56100 * r + 164) := eA _ (by unfold zNo; omega)
      have e165 : zU I2 74 i 1 A (56100 * r + 165) = I A (56100 * r + 165) := eA _ (by unfold zNo; omega)
      have e166 : zU I2 74 i 1 A (56100 * r + 166) = I A (56100 * r + 166) := eA _ (by unfold zNo; omega)
      have e167 : zU I2 74 i 1 A (56100 * r + 167) = I A (56100 * r + 167) := eA _ (by unfold zNo; omega)
      have s1 : zSum (zU I2 74 i 1 A) (56100 * r + 1901) 2 (I A (56100 * r + 166)).toNat = zSum (I A) (56100 * r + 1901) 2 (I A (56100 * r + 166)).toNat := zSum_eq (fun j hj => eA _ (by unfold zNo; omega))
      have s2 : zSum (zU I2 74 i 1 A) (56100 * r + 171) 17 (I A (56100 * r + 165)).toNat = zSum (I A) (56100 * r + 171) 17 (I A (56100 * r + 165)).toNat := zSum_eq (fun j hj => eA _ (by unfold zNo; omega))
      unfold zRm
      rw [e164, e165, e166, e167, s1, s2]
      refine ⟨g1, g2, g3, g4, g5, ?_⟩
      intro l hl
      have el : zU I2 74 i 1 A (56100 * r + 1941 + 66 * l) = I A (56100 * r + 1941 + 66 * l) := eA _ (by unfold zNo; omega)
      rw [el]
      exact l61 _ (g6 l hl)
theorem z_ne0 {b : Int} (hr : zR b) (h0 : b ≠ 0) : ¬ Int32.ofInt b = 0 := by
  rw [show (0 : Int32) = Int32.ofInt 0 from rfl, z_eq hr (by omega)]; exact h0
/-! copying a room from one array to the other -/
/-- I2 is I, but that row B has what row A has at the places of S -/
def zCp (A B : Nat) (S : Nat → Prop) (I I2 : Nat → Nat → Int) : Prop := ∀ c j, (c = B ∧ S j → I2 c j = I A j) ∧ (¬ (c = B ∧ S j) → I2 c j = I c j)
theorem zCp_rf {A B : Nat} {S : Nat → Prop} {I : Nat → Nat → Int} (h : ∀ j, ¬ S j) : zCp A B S I I := fun c j => ⟨fun e => absurd e.2 (h j), fun _ => rfl⟩
theorem zCp_mono {A B : Nat} {S S2 : Nat → Prop} {I I2 : Nat → Nat → Int} (h : zCp A B S I I2) (hs : ∀ j, S2 j ↔ S j) : zCp A B S2 I I2 := fun c j => ⟨fun e => (h c j).1 ⟨e.1, (hs j).mp e.2⟩, fun e => (h c j).2 (fun e2 => e ⟨e2.1, (hs j).mpr e2.2⟩)⟩
theorem zCp_u {A B k : Nat} {v : Int} {S S2 : Nat → Prop} {I I2 : Nat → Nat → Int} (h : zCp A B S I I2) (hAB : A ≠ B) (hv : v = I2 A k) (hs : ∀ j, S2 j ↔ S j ∨ j = k) : zCp A B S2 I (zU I2 B k v) := by
  have hA : I2 A k = I A k := (h A k).2 (fun e => hAB e.1)
  intro c j
  by_cases e : c = B ∧ j = k
  · obtain ⟨rfl, rfl⟩ := e
    refine ⟨fun _ => by rw [zU_same, hv, hA], fun e2 => absurd ⟨rfl, (hs j).mpr (Or.inr rfl)⟩ e2⟩
  · have e1 : zU I2 B k v c j = I2 c j := by simp [zU, e]
    rw [e1]
    refine ⟨fun e2 => (h c j).1 ⟨e2.1, ?_⟩, fun e2 => (h c j).2 (fun e3 => e2 ⟨e3.1, (hs j).mpr (Or.inl e3.2)⟩)⟩
    rcases (hs j).mp e2.2 with e3 | e3
    · exact e3
    · exact absurd ⟨e2.1, e3⟩ e
/-- a room's numbers hold where they were copied to -/
theorem zRl_cp {A B r0 : Nat} {S : Nat → Prop} {I I2 : Nat → Nat → Int} (hAB : (A = 57 ∧ B = 58) ∨ (A = 58 ∧ B = 57)) (hr0 : r0 < 2) (h : zCp A B S I I2)
    (hS1 : ∀ j, 56100 * r0 ≤ j → j < 56100 * r0 + 1940 → S j) (hS2 : ∀ l : Nat, (l : Int) < I A (56100 * r0 + 164) → S (56100 * r0 + 1941 + 66 * l)) (hS3 : ∀ j, S j → 56100 * r0 ≤ j ∧ j < 56100 * r0 + 56100) (hr : zRl I) : zRl I2 := by
  obtain ⟨h1, h2, h3⟩ := hr
  have eo : ∀ c, c ≠ B → ∀ j, I2 c j = I c j := fun c hc j => (h c j).2 (fun e => hc e.1)
  refine ⟨fun t => by rw [eo 80 (by omega), eo 81 (by omega)]; exact h1 t, fun i => by rw [eo 61 (by omega), eo 74 (by omega)]; exact h2 i, fun C r hC hr => ?_⟩
  have e61 : ∀ t, I2 61 t = I 61 t := eo 61 (by omega)
  by_cases hCB : C = B
  · subst hCB
    by_cases hrr : r = r0
    · subst hrr
      have eB : ∀ j, S j → I2 C j = I A j := fun j hj => (h C j).1 ⟨rfl, hj⟩
      obtain ⟨g1, g2, g3, g4, g5, g6⟩ := h3 A r (by omega) hr
      have e164 : I2 C (56100 * r + 164) = I A (56100 * r + 164) := eB _ (hS1 _ (by omega) (by omega))
      have e165 : I2 C (56100 * r + 165) = I A (56100 * r + 165) := eB _ (hS1 _ (by omega) (by omega))
      have e166 : I2 C (56100 * r + 166) = I A (56100 * r + 166) := eB _ (hS1 _ (by omega) (by omega))
      have e167 : I2 C (56100 * r + 167) = I A (56100 * r + 167) := eB _ (hS1 _ (by omega) (by omega))
      have s1 : zSum (I2 C) (56100 * r + 1901) 2 (I A (56100 * r + 166)).toNat = zSum (I A) (56100 * r + 1901) 2 (I A (56100 * r + 166)).toNat := zSum_eq (fun j hj => eB _ (hS1 _ (by omega) (by omega)))
      have s2 : zSum (I2 C) (56100 * r + 171) 17 (I A (56100 * r + 165)).toNat = zSum (I A) (56100 * r + 171) 17 (I A (56100 * r + 165)).toNat := zSum_eq (fun j hj => eB _ (hS1 _ (by omega) (by omega)))
      unfold zRm
      rw [e164, e165, e166, e167, s1, s2]
      refine ⟨g1, g2, g3, g4, g5, fun l hl => ?_⟩
      rw [eB _ (hS2 l hl), e61]
      exact g6 l hl
    · have eB : ∀ j, ¬ S j → I2 C j = I C j := fun j hj => (h C j).2 (fun e => hj e.2)
      have hn : ∀ j, 56100 * r ≤ j → j < 56100 * r + 56100 → I2 C j = I C j := fun j h1 h2 => eB j (fun hs => by have := hS3 j hs; omega)
      obtain ⟨g1, g2, g3, g4, g5, g6⟩ := h3 C r hC hr
      have e164 := hn (56100 * r + 164) (by omega) (by omega)
      have e165 := hn (56100 * r + 165) (by omega) (by omega)
      have e166 := hn (56100 * r + 166) (by omega) (by omega)
      have e167 := hn (56100 * r + 167) (by omega) (by omega)
      have s1 : zSum (I2 C) (56100 * r + 1901) 2 (I C (56100 * r + 166)).toNat = zSum (I C) (56100 * r + 1901) 2 (I C (56100 * r + 166)).toNat := zSum_eq (fun j hj => hn _ (by omega) (by omega))
      have s2 : zSum (I2 C) (56100 * r + 171) 17 (I C (56100 * r + 165)).toNat = zSum (I C) (56100 * r + 171) 17 (I C (56100 * r + 165)).toNat := zSum_eq (fun j hj => hn _ (by omega) (by omega))
      unfold zRm
      rw [e164, e165, e166, e167, s1, s2]
      refine ⟨g1, g2, g3, g4, g5, fun l hl => ?_⟩
      rw [hn _ (by omega) (by omega), e61]
      exact g6 l hl
  · obtain ⟨g1, g2, g3, g4, g5, g6⟩ := h3 C r hC hr
    have hn := eo C hCB
    have s1 : zSum (I2 C) (56100 * r + 1901) 2 (I C (56100 * r + 166)).toNat = zSum (I C) (56100 * r + 1901) 2 (I C (56100 * r + 166)).toNat := zSum_eq (fun j hj => hn _)
    have s2 : zSum (I2 C) (56100 * r + 171) 17 (I C (56100 * r + 165)).toNat = zSum (I C) (56100 * r + 171) 17 (I C (56100 * r + 165)).toNat := zSum_eq (fun j hj => hn _)
    unfold zRm
    rw [hn, hn, hn, hn, s1, s2]
    refine ⟨g1, g2, g3, g4, g5, fun l hl => ?_⟩
    rw [hn, e61]
    exact g6 l hl
theorem zFr_cp {A B r0 : Nat} {S : Nat → Prop} {I I2 : Nat → Nat → Int} (hAB : (A = 57 ∧ B = 58) ∨ (A = 58 ∧ B = 57)) (hr0 : r0 < 2) (h : zCp A B S I I2)
    (hS1 : ∀ j, 56100 * r0 ≤ j → j < 56100 * r0 + 1940 → S j) (hS2 : ∀ l : Nat, (l : Int) < I A (56100 * r0 + 164) → S (56100 * r0 + 1941 + 66 * l)) (hS3 : ∀ j, S j → 56100 * r0 ≤ j ∧ j < 56100 * r0 + 56100) : zFr I I2 := by
  refine ⟨fun a k => ?_, zRl_cp hAB hr0 h hS1 hS2 hS3⟩
  by_cases e : a = B ∧ S k
  · exact Or.inl ⟨by omega, by omega, by omega, by omega⟩
  · exact Or.inr ((h a k).2 e)
/-- boxes alone have changed -/
def zFb (I I2 : Nat → Nat → Int) : Prop := ∀ a k, (a = 57 ∧ k % 56100 < 144) ∨ I2 a k = I a k
theorem zFb_rf (I : Nat → Nat → Int) : zFb I I := fun _ _ => Or.inr rfl
theorem zFb_u {I I2 : Nat → Nat → Int} {k : Nat} {v : Int} (h : zFb I I2) (hk : k % 56100 < 144) : zFb I (zU I2 57 k v) := by
  intro b j
  by_cases e : b = 57 ∧ j = k
  · obtain ⟨rfl, rfl⟩ := e; exact Or.inl ⟨rfl, hk⟩
  · rcases h b j with e2 | e2
    · exact Or.inl e2
    · refine Or.inr ?_
      rw [← e2]
      simp [zU, e]
theorem zFb_tr {I I2 I3 : Nat → Nat → Int} (h : zFb I I2) (h2 : zFb I2 I3) : zFb I I3 := by
  intro a k
  rcases h2 a k with e | e
  · exact Or.inl e
  · rcases h a k with e2 | e2
    · exact Or.inl e2
    · exact Or.inr (e.trans e2)
theorem zFr_b {I I2 : Nat → Nat → Int} (h : zFb I I2) : zFr I I2 := zFr_q (fun a k => by
  rcases h a k with e | e
  · obtain ⟨rfl, e⟩ := e; exact Or.inl (zNr_n (Or.inl rfl) (by omega))
  · exact Or.inr e)
/-- while lines go: the room at hand is q, and there are more than a lines -/
def zDr (q a : Int) (I I2 : Nat → Nat → Int) : Prop := zFr I I2 ∧ I2 56 3 = q ∧ a < I2 57 (56100 * q + 164).toNat ∧ 0 ≤ q ∧ q ≤ 1
theorem zDr_b {q a : Int} {I I2 I3 : Nat → Nat → Int} (h : zDr q a I I2) (hb : zFb I2 I3) : zDr q a I I3 := by
  obtain ⟨h1, h2, h3, h4, h5⟩ := h
  refine ⟨zFr_tr h1 (zFr_b hb), ?_, ?_, h4, h5⟩
  · rw [(hb 56 3).resolve_left (by omega)]; exact h2
  · rw [(hb 57 (56100 * q + 164).toNat).resolve_left (by omega)]; exact h3
theorem zDr_in {q a v : Int} {I I2 : Nat → Nat → Int} (hf : zFr I I2) (ho : ∀ c j, c ≠ 58 → c ≠ 59 → I2 c j = I c j) (hq : q = I 56 3) (hv : v = I 57 (56100 * q + 164).toNat) (ha : a < v) (h01 : 0 ≤ q ∧ q ≤ 1) : zDr q a I I2 :=
  ⟨hf, by rw [ho 56 3 (by omega) (by omega), ← hq], by rw [ho 57 _ (by omega) (by omega), ← hv]; exact ha, h01.1, h01.2⟩
theorem zDr_end {q a : Int} {I I2 : Nat → Nat → Int} (h : zDr q a I I2) (h0 : 0 ≤ a) : zFr I (zU (zU I2 57 (56100 * q + 164).toNat a) 57 (56100 * q + 165).toNat 0) := by
  obtain ⟨h1, h2, h3, h4, h5⟩ := h
  refine zFr_tr h1 ⟨fun c k => ?_, fun hr => ?_⟩
  · by_cases e : c = 57
    · exact Or.inl ⟨by omega, by omega, by omega, by omega⟩
    · rw [zU_row _ _ _ e, zU_row _ _ _ e]; exact Or.inr rfl
  · have hk : ∀ k, k ≠ (56100 * q + 164).toNat → k ≠ (56100 * q + 165).toNat → zU (zU I2 57 (56100 * q + 164).toNat a) 57 (56100 * q + 165).toNat 0 57 k = I2 57 k := fun k e1 e2 => by rw [zU_at _ _ _ e2, zU_at _ _ _ e1]
    have hc : ∀ c, c ≠ 57 → zU (zU I2 57 (56100 * q + 164).toNat a) 57 (56100 * q + 165).toNat 0 c = I2 c := fun c e => by rw [zU_row _ _ _ e, zU_row _ _ _ e]
    have hA : zU (zU I2 57 (56100 * q + 164).toNat a) 57 (56100 * q + 165).toNat 0 57 (56100 * q + 164).toNat = a := by rw [zU_at _ _ _ (by omega), zU_same]
    have hB : zU (zU I2 57 (56100 * q + 164).toNat a) 57 (56100 * q + 165).toNat 0 57 (56100 * q + 165).toNat = 0 := zU_same _ _ _ _
    generalize zU (zU I2 57 (56100 * q + 164).toNat a) 57 (56100 * q + 165).toNat 0 = J at hk hc hA hB
    obtain ⟨g1, g2, g3⟩ := hr
    refine ⟨fun t => by rw [hc 80 (by omega), hc 81 (by omega)]; exact g1 t, fun i => by rw [hc 61 (by omega), hc 74 (by omega)]; exact g2 i, fun A r hA2 hr2 => ?_⟩
    have e61 : J 61 = I2 61 := hc 61 (by omega)
    by_cases eA : A = 57
    · subst eA
      obtain ⟨m1, m2, m3, m4, m5, m6⟩ := g3 57 r (Or.inl rfl) hr2
      have s1 : zSum (J 57) (56100 * r + 1901) 2 (I2 57 (56100 * r + 166)).toNat = zSum (I2 57) (56100 * r + 1901) 2 (I2 57 (56100 * r + 166)).toNat := zSum_eq (fun j hj => hk _ (by omega) (by omega))
      have s2 : zSum (J 57) (56100 * r + 171) 17 (I2 57 (56100 * r + 165)).toNat = zSum (I2 57) (56100 * r + 171) 17 (I2 57 (56100 * r + 165)).toNat := zSum_eq (fun j hj => hk _ (by omega) (by omega))
      have e166 : J 57 (56100 * r + 166) = I2 57 (56100 * r + 166) := hk _ (by omega) (by omega)
      have e167 : J 57 (56100 * r + 167) = I2 57 (56100 * r + 167) := hk _ (by omega) (by omega)
      by_cases er : r = q.toNat
      · have k4 : (56100 * q + 164).toNat = 56100 * r + 164 := by omega
        have k5 : (56100 * q + 165).toNat = 56100 * r + 165 := by omega
        rw [k4] at hA h3
        rw [k5] at hB
        unfold zRm
        rw [hA, hB, e166, e167, s1]
        refine ⟨⟨h0, by omega⟩, by omega, m3, m4, Or.inl rfl, fun l hl => ?_⟩
        rw [hk _ (by omega) (by omega), e61]
        exact m6 l (by omega)
      · have e164 : J 57 (56100 * r + 164) = I2 57 (56100 * r + 164) := hk _ (by omega) (by omega)
        have e165 : J 57 (56100 * r + 165) = I2 57 (56100 * r + 165) := hk _ (by omega) (by omega)
        unfold zRm
        rw [e164, e165, e166, e167, s1, s2]
        refine ⟨m1, m2, m3, m4, m5, fun l hl => ?_⟩
        rw [hk _ (by omega) (by omega), e61]
        exact m6 l hl
    · have eA2 : J A = I2 A := hc A eA
      have := g3 A r hA2 hr2
      unfold zRm at this ⊢
      rw [eA2, e61]
      exact this
/-- a token is put down: its kind, then its number -/
theorem zFr_tok {I I2 : Nat → Nat → Int} {k : Nat} {a s : Int} (h : zFr I I2) (hs : a = 7 → 0 ≤ s ∧ s ≤ 11) : zFr I (zU (zU I2 80 k a) 81 k s) := by
  refine zFr_tr h ⟨fun c j => ?_, fun hr => ?_⟩
  · by_cases e : c = 80 ∨ c = 81
    · exact Or.inl ⟨by omega, by omega, by omega, by omega⟩
    · rw [zU_row _ _ _ (by omega), zU_row _ _ _ (by omega)]; exact Or.inr rfl
  · have hc : ∀ c, c ≠ 80 → c ≠ 81 → zU (zU I2 80 k a) 81 k s c = I2 c := fun c e1 e2 => by rw [zU_row _ _ _ e2, zU_row _ _ _ e1]
    obtain ⟨g1, g2, g3⟩ := hr
    refine ⟨fun t ht => ?_, fun i => by rw [hc 61 (by omega) (by omega), hc 74 (by omega) (by omega)]; exact g2 i, fun A r hA hr => ?_⟩
    · by_cases e : t = k
      · subst e
        rw [zU_same]
        rw [zU_row _ _ _ (by omega), zU_same] at ht
        exact hs ht
      · rw [zU_at _ _ _ e, zU_row _ _ _ (by omega)]
        rw [zU_row _ _ _ (by omega), zU_at _ _ _ e] at ht
        exact g1 t ht
    · have := g3 A r hA hr
      unfold zRm at this ⊢
      rw [hc A (by omega) (by omega), hc 61 (by omega) (by omega)]
      exact this
