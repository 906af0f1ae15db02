/-! a line that comes into the galley: room q, the line's place l, its fount f -/
def zSe (q l : Int) (I I2 : Nat → Nat → Int) : Prop := ∀ a k : Nat, (a = 82 ∨ a = 83 ∨ (a = 56 ∧ ((31 ≤ k ∧ k ≤ 38) ∨ k = 5)) ∨ (a = 57 ∧ ((k : Int) = 56100 * q + 164 ∨ (56100 * q + 1940 + 66 * l ≤ k ∧ (k : Int) < 56100 * q + 2006 + 66 * l)))) ∨ I2 a k = I a k
theorem zSe_rf (q l : Int) (I : Nat → Nat → Int) : zSe q l I I := fun _ _ => Or.inr rfl
theorem zSe_tr {q l : Int} {I I2 I3 : Nat → Nat → Int} (h : zSe q l I I2) (h2 : zSe q l I2 I3) : zSe q l I I3 := by
  intro a k
  rcases h2 a k with e | e
  · exact Or.inl e
  · rcases h a k with e2 | e2
    · exact Or.inl e2
    · exact Or.inr (e.trans e2)
theorem zSe_l {q l : Int} {I I2 : Nat → Nat → Int} (h : zLf I I2) : zSe q l I I2 := fun a k => by
  rcases h a k with e | e
  · exact Or.inl (by omega)
  · exact Or.inr e
theorem zSe_j {q l : Int} {I I2 : Nat → Nat → Int} (h : zJu I I2) : zSe q l I I2 := fun a k => by
  rcases h a k with e | e
  · exact Or.inl (by omega)
  · exact Or.inr e
theorem zSe_n {q l : Int} {I I2 : Nat → Nat → Int} {k : Nat} {v : Int} (h : zSe q l I I2) (hk : (k : Int) = 56100 * q + 164 ∨ (56100 * q + 1940 + 66 * l ≤ k ∧ (k : Int) < 56100 * q + 2006 + 66 * l)) : zSe q l I (zU I2 57 k v) := by
  intro b j
  by_cases e : b = 57 ∧ j = k
  · obtain ⟨rfl, rfl⟩ := e; exact Or.inl (by omega)
  · rcases h b j with e2 | e2
    · exact Or.inl e2
    · refine Or.inr ?_
      rw [← e2]
      simp [zU, e]
/-- would the pages go, all would hold -/
def zRp (q : Int) (I : Nat → Nat → Int) : Prop := zRl (zU I 57 (56100 * q + 165).toNat 0)
theorem zRp_of {q : Int} {I : Nat → Nat → Int} (hq : 0 ≤ q ∧ q ≤ 1) (h : zRl I) : zRp q I := by
  obtain ⟨g1, g2, g3⟩ := h
  have hc : ∀ c, c ≠ 57 → zU I 57 (56100 * q + 165).toNat 0 c = I c := fun c e => zU_row _ _ _ e
  have hk : ∀ k, k ≠ (56100 * q + 165).toNat → zU I 57 (56100 * q + 165).toNat 0 57 k = I 57 k := fun k e => zU_at _ _ _ e
  have hB : zU I 57 (56100 * q + 165).toNat 0 57 (56100 * q + 165).toNat = 0 := zU_same _ _ _ _
  unfold zRp
  generalize zU I 57 (56100 * q + 165).toNat 0 = J at hc hk hB
  refine ⟨fun t => by rw [hc 80 (by omega), hc 81 (by omega)]; exact g1 t, fun i => by rw [hc 61 (by omega), hc 74 (by omega)]; exact g2 i, fun A r hA hr => ?_⟩
  have e61 : J 61 = I 61 := hc 61 (by omega)
  by_cases eA : A = 57
  · subst eA
    obtain ⟨m1, m2, m3, m4, m5, m6⟩ := g3 57 r (Or.inl rfl) hr
    have s1 : zSum (J 57) (56100 * r + 1901) 2 (I 57 (56100 * r + 166)).toNat = zSum (I 57) (56100 * r + 1901) 2 (I 57 (56100 * r + 166)).toNat := zSum_eq (fun j hj => hk _ (by omega))
    have s2 : zSum (J 57) (56100 * r + 171) 17 (I 57 (56100 * r + 165)).toNat = zSum (I 57) (56100 * r + 171) 17 (I 57 (56100 * r + 165)).toNat := zSum_eq (fun j hj => hk _ (by omega))
    have e164 : J 57 (56100 * r + 164) = I 57 (56100 * r + 164) := hk _ (by omega)
    have e166 : J 57 (56100 * r + 166) = I 57 (56100 * r + 166) := hk _ (by omega)
    have e167 : J 57 (56100 * r + 167) = I 57 (56100 * r + 167) := hk _ (by omega)
    by_cases er : r = q.toNat
    · have k5 : (56100 * q + 165).toNat = 56100 * r + 165 := by omega
      rw [k5] at hB
      unfold zRm
      rw [e164, hB, e166, e167, s1]
      refine ⟨m1, by omega, m3, m4, Or.inl rfl, fun l hl => ?_⟩
      rw [hk _ (by omega), e61]
      exact m6 l hl
    · have e165 : J 57 (56100 * r + 165) = I 57 (56100 * r + 165) := hk _ (by omega)
      unfold zRm
      rw [e164, e165, e166, e167, s1, s2]
      refine ⟨m1, m2, m3, m4, m5, fun l hl => ?_⟩
      rw [hk _ (by omega), e61]
      exact m6 l hl
  · have := g3 A r hA hr
    unfold zRm at this ⊢
    rw [hc A eA, e61]
    exact this
theorem zRp_tok {q : Int} {I : Nat → Nat → Int} (h : zRp q I) : zTok I := fun t => by
  have := h.1 t
  rw [zU_row _ _ _ (by omega), zU_row _ _ _ (by omega)] at this
  exact this
/-- a line has come -/
theorem zRp_set {q l f : Int} {I I2 : Nat → Nat → Int} (hq : 0 ≤ q ∧ q ≤ 1) (hl : 0 ≤ l ∧ l ≤ 88) (hf : 0 ≤ f) (h : zRp q I) (hs : zSe q l I I2) (hL : I 57 (56100 * q + 164).toNat = l) (hL2 : I2 57 (56100 * q + 164).toNat = l + 1) (hF : I2 57 (56100 * q + 1941 + 66 * l).toNat = f) (hlt : 0 ≤ I 61 (4 * q + f).toNat) : zRp q I2 := by
  have hc : ∀ c, c ≠ 57 → c ≠ 56 → c ≠ 82 → c ≠ 83 → zU I2 57 (56100 * q + 165).toNat 0 c = zU I 57 (56100 * q + 165).toNat 0 c := fun c e1 e2 e3 e4 => by
    rw [zU_row _ _ _ e1, zU_row _ _ _ e1]
    funext k
    exact (hs c k).resolve_left (by omega)
  have hk : ∀ k : Nat, ¬ ((k : Int) = 56100 * q + 164) → ¬ (56100 * q + 1940 + 66 * l ≤ k ∧ (k : Int) < 56100 * q + 2006 + 66 * l) → zU I2 57 (56100 * q + 165).toNat 0 57 k = zU I 57 (56100 * q + 165).toNat 0 57 k := fun k e1 e2 => by
    by_cases e : k = (56100 * q + 165).toNat
    · subst e; rw [zU_same, zU_same]
    · rw [zU_at _ _ _ e, zU_at _ _ _ e]
      exact (hs 57 k).resolve_left (by omega)
  have hA : zU I2 57 (56100 * q + 165).toNat 0 57 (56100 * q + 164).toNat = l + 1 := by rw [zU_at _ _ _ (by omega)]; exact hL2
  have hA0 : zU I 57 (56100 * q + 165).toNat 0 57 (56100 * q + 164).toNat = l := by rw [zU_at _ _ _ (by omega)]; exact hL
  have hB : zU I2 57 (56100 * q + 165).toNat 0 57 (56100 * q + 165).toNat = 0 := zU_same _ _ _ _
  have hFF : zU I2 57 (56100 * q + 165).toNat 0 57 (56100 * q + 1941 + 66 * l).toNat = f := by rw [zU_at _ _ _ (by omega)]; exact hF
  have hl61 : 0 ≤ zU I 57 (56100 * q + 165).toNat 0 61 (4 * q + f).toNat := by rw [zU_row _ _ _ (by omega)]; exact hlt
  unfold zRp at h ⊢
  generalize zU I2 57 (56100 * q + 165).toNat 0 = J at hc hk hA hB hFF
  generalize zU I 57 (56100 * q + 165).toNat 0 = Q at hc hk hA0 hl61 h
  obtain ⟨g1, g2, g3⟩ := h
  have e61 : J 61 = Q 61 := hc 61 (by omega) (by omega) (by omega) (by omega)
  refine ⟨fun t => by rw [hc 80 (by omega) (by omega) (by omega) (by omega), hc 81 (by omega) (by omega) (by omega) (by omega)]; exact g1 t, fun i => by rw [e61, hc 74 (by omega) (by omega) (by omega) (by omega)]; exact g2 i, fun A r hA2 hr => ?_⟩
  by_cases eA : A = 57
  · subst eA
    obtain ⟨m1, m2, m3, m4, m5, m6⟩ := g3 57 r (Or.inl rfl) hr
    have s1 : zSum (J 57) (56100 * r + 1901) 2 (Q 57 (56100 * r + 166)).toNat = zSum (Q 57) (56100 * r + 1901) 2 (Q 57 (56100 * r + 166)).toNat := zSum_eq (fun j hj => hk _ (by omega) (by omega))
    have s2 : zSum (J 57) (56100 * r + 171) 17 (Q 57 (56100 * r + 165)).toNat = zSum (Q 57) (56100 * r + 171) 17 (Q 57 (56100 * r + 165)).toNat := zSum_eq (fun j hj => hk _ (by omega) (by intro hh; rcases (by omega : q = 0 ∨ q = 1) with e | e <;> rcases (by omega : r = 0 ∨ r = 1) with e2 | e2 <;> subst e <;> subst e2 <;> omega))
    have e165 : J 57 (56100 * r + 165) = Q 57 (56100 * r + 165) := hk _ (by omega) (by omega)
    have e166 : J 57 (56100 * r + 166) = Q 57 (56100 * r + 166) := hk _ (by omega) (by omega)
    have e167 : J 57 (56100 * r + 167) = Q 57 (56100 * r + 167) := hk _ (by omega) (by omega)
    by_cases er : r = q.toNat
    · have k4 : (56100 * q + 164).toNat = 56100 * r + 164 := by omega
      have k5 : (56100 * q + 165).toNat = 56100 * r + 165 := by omega
      rw [k4] at hA hA0
      rw [k5] at hB
      unfold zRm
      rw [hA, hB, e166, e167, s1]
      refine ⟨by omega, by omega, m3, m4, Or.inl rfl, fun j hj => ?_⟩
      by_cases ej : (j : Int) = l
      · have kF : (56100 * q + 1941 + 66 * l).toNat = 56100 * r + 1941 + 66 * j := by omega
        rw [kF] at hFF
        rw [hFF, e61, show 4 * r + f.toNat = (4 * q + f).toNat by omega]
        exact hl61
      · rw [hk _ (by omega) (by omega), e61]
        exact m6 j (by omega)
    · have e164 : J 57 (56100 * r + 164) = Q 57 (56100 * r + 164) := hk _ (by omega) (by omega)
      unfold zRm
      rw [e164, e165, e166, e167, s1, s2]
      refine ⟨m1, m2, m3, m4, m5, fun j hj => ?_⟩
      rw [hk _ (by omega) (by omega), e61]
      exact m6 j hj
  · have hA3 : A = 58 := by omega
    subst hA3
    have := g3 58 r (Or.inr rfl) hr
    unfold zRm at this ⊢
    rw [hc 58 (by omega) (by omega) (by omega) (by omega), e61]
    exact this
