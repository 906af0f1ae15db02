/-! setting: lines come, one behind the other -/
theorem zQt_wl {I I2 : Nat → Nat → Int} (h : zWl I I2) : zQt I I2 := ⟨fun k => (h 57 k).resolve_left (by omega), fun k => (h 61 k).resolve_left (by omega), (h 56 3).resolve_left (by omega)⟩
theorem zGo_o {N : Int} {I I2 : Nat → Nat → Int} (h : zGo N I) (ho : ∀ c j, c ≠ 58 → c ≠ 59 → I2 c j = I c j) : zGo N I2 :=
  ⟨by rw [ho 56 39 (by omega) (by omega)]; exact h.1, fun j => by rw [ho 85 j (by omega) (by omega)]; exact h.2 j⟩
def zS2 (q w N f : Int) (I I2 : Nat → Nat → Int) : Prop := (∀ a k, zMo a k ∨ I2 a k = I a k) ∧ zRp q I2 ∧ zGo N I2 ∧ I2 56 3 = q ∧ I2 57 (56100 * q + 164).toNat = w ∧ 0 ≤ I2 61 (4 * q + f).toNat
theorem zS2_b {q w N f : Int} {I I2 : Nat → Nat → Int} (hq : 0 ≤ q ∧ q ≤ 1) (h : zFb I I2) (hr : zRl I) (hg : zGo N I) (h3 : I 56 3 = q) (hL : I 57 (56100 * q + 164).toNat = w) (hf : 0 ≤ I 61 (4 * q + f).toNat) : zS2 q w N f I I2 :=
  ⟨(zFr_b h).1, zRp_of hq ((zFr_b h).2 hr), ⟨by rw [(h 56 39).resolve_left (by omega)]; exact hg.1, fun j => by rw [(h 85 j).resolve_left (by omega)]; exact hg.2 j⟩, by rw [(h 56 3).resolve_left (by omega)]; exact h3, by rw [(h 57 (56100 * q + 164).toNat).resolve_left (by omega)]; exact hL, by rw [(h 61 (4 * q + f).toNat).resolve_left (by omega)]; exact hf⟩
theorem zS2_s {q w N f : Int} {I I2 I3 : Nat → Nat → Int} (hq : 0 ≤ q ∧ q ≤ 1) (hw : 0 ≤ w ∧ w ≤ 88) (hf : 0 ≤ f) (h : zS2 q w N f I I2) (hs : zSe q w I2 I3) (h1 : I3 57 (56100 * q + 164).toNat = w + 1) (h2 : I3 57 (56100 * q + 1941 + 66 * w).toNat = f) : zS2 q (w + 1) N f I I3 := by
  obtain ⟨g1, g2, g3, g4, g5, g6⟩ := h
  refine ⟨fun a k => ?_, zRp_set hq hw hf g2 hs g5 h1 h2 g6, ⟨?_, fun j => ?_⟩, ?_, h1, ?_⟩
  · rcases hs a k with e | e
    · exact Or.inl ⟨by omega, by omega, by omega, by omega⟩
    · rcases g1 a k with e2 | e2
      · exact Or.inl e2
      · exact Or.inr (e.trans e2)
  · rw [(hs 56 39).resolve_left (by omega)]; exact g3.1
  · rw [(hs 85 j).resolve_left (by omega)]; exact g3.2 j
  · rw [(hs 56 3).resolve_left (by omega)]; exact g4
  · rw [(hs 61 _).resolve_left (by omega)]; exact g6
/-- how many were set together is told -/
theorem zS2_m {q w N f v : Int} {k : Nat} {I I2 : Nat → Nat → Int} (hq : 0 ≤ q ∧ q ≤ 1) (h : zS2 q w N f I I2) (hk : 1940 ≤ k % 56100 ∧ (k % 56100 - 1940) % 66 ≠ 1) : zS2 q w N f I (zU I2 57 k v) := by
  obtain ⟨g1, g2, g3, g4, g5, g6⟩ := h
  refine ⟨fun a j => ?_, ?_, ⟨?_, fun j => ?_⟩, ?_, ?_, ?_⟩
  · by_cases e : a = 57
    · exact Or.inl ⟨by omega, by omega, by omega, by omega⟩
    · rw [zU_row _ _ _ e]; exact g1 a j
  · refine zRl_q (fun a j => ?_) g2
    by_cases e : a = 57 ∧ j = k
    · obtain ⟨rfl, rfl⟩ := e
      exact Or.inl (zNr_n (Or.inl rfl) (by omega))
    · refine Or.inr ?_
      by_cases e2 : a = 57 ∧ j = (56100 * q + 165).toNat
      · obtain ⟨rfl, rfl⟩ := e2; rw [zU_same, zU_same]
      · simp [zU, e, e2]
  · rw [zU_row _ _ _ (by omega)]; exact g3.1
  · rw [zU_row _ _ _ (by omega)]; exact g3.2 j
  · rw [zU_row _ _ _ (by omega)]; exact g4
  · rw [zU_at _ _ _ (by omega)]; exact g5
  · rw [zU_row _ _ _ (by omega)]; exact g6
theorem zS2_end {q w N f : Int} {I I2 : Nat → Nat → Int} (h : zS2 q w N f I I2) : zFr I (zU I2 57 (56100 * q + 165).toNat 0) := by
  refine ⟨fun a j => ?_, fun _ => h.2.1⟩
  by_cases e : a = 57
  · exact Or.inl ⟨by omega, by omega, by omega, by omega⟩
  · rw [zU_row _ _ _ e]; exact h.1 a j
