/-! pages that are made up -/
/-- from 0 to a by the pages' lines: V are the places that are met -/
def zVj (V : Nat → Prop) (a : Int) (I : Nat → Nat → Int) : Prop := ∀ j : Nat, V j → (j : Int) < a ∧ 1 ≤ I 89 j ∧ I 89 j ≤ 60 ∧ ((j : Int) + I 89 j = a ∨ V (j + (I 89 j).toNat))
def zVi (a : Int) (I : Nat → Nat → Int) : Prop := ∃ V : Nat → Prop, (a = 0 ∨ V 0) ∧ zVj V a I
theorem zVi_0 {I : Nat → Nat → Int} : zVi 0 I := ⟨fun _ => False, Or.inl rfl, fun _ h => h.elim⟩
theorem zVj_eq {V : Nat → Prop} {a : Int} {I I2 : Nat → Nat → Int} (h : zVj V a I) (he : ∀ j, I2 89 j = I 89 j) : zVj V a I2 := by
  intro j hj
  rw [he j]; exact h j hj
theorem zVi_eq {a : Int} {I I2 : Nat → Nat → Int} (h : zVi a I) (he : ∀ j, I2 89 j = I 89 j) : zVi a I2 := by
  obtain ⟨V, h0, h1⟩ := h
  exact ⟨V, h0, zVj_eq h1 he⟩
theorem zVi_p {a : Int} {I I2 : Nat → Nat → Int} (h : zVi a I) (hp : zPg I I2) : zVi a I2 := zVi_eq h (fun j => (hp 89 j).resolve_left (by omega))
theorem zVi_f {a v : Int} {k : Nat} {I : Nat → Nat → Int} (h : zVi a I) : zVi a (zU I 56 k v) := zVi_eq h (fun j => by rw [zU_row _ _ _ (by omega)])
theorem zVi_s {a s : Int} {I : Nat → Nat → Int} (h : zVi a I) (h0 : 0 ≤ a) (hs : 1 ≤ s ∧ s ≤ 60) : zVi (a + s) (zU I 89 a.toNat s) := by
  obtain ⟨V, h1, h2⟩ := h
  refine ⟨fun j => V j ∨ j = a.toNat, Or.inr ?_, fun j hj => ?_⟩
  · rcases h1 with e | e
    · exact Or.inr (by omega)
    · exact Or.inl e
  · by_cases e : j = a.toNat
    · subst e
      rw [zU_same]
      exact ⟨by omega, hs.1, hs.2, Or.inl (by omega)⟩
    · have hV := hj.resolve_right e
      obtain ⟨g1, g2, g3, g4⟩ := h2 j hV
      rw [zU_at _ _ _ e]
      refine ⟨by omega, g2, g3, Or.inr ?_⟩
      rcases g4 with e2 | e2
      · exact Or.inr (by omega)
      · exact Or.inl e2
theorem zVi_m {n : Int} {I : Nat → Nat → Int} (h : zPm n (-1) I) (h1 : 1 ≤ n) : zVi n I := by
  refine ⟨fun j => (j : Int) < n, Or.inr (by show ((0 : Nat) : Int) < n; omega), fun j hj => ?_⟩
  have hj : (j : Int) < n := hj
  obtain ⟨g1, g2, g3⟩ := h j (by omega) hj
  refine ⟨hj, g1, g2, ?_⟩
  by_cases e : (j : Int) + I 89 j = n
  · exact Or.inl e
  · exact Or.inr (by show ((j + (I 89 j).toNat : Nat) : Int) < n; omega)
/-- each line's height, out of what holds of the room -/
theorem zHt_rl {n sl : Nat} {T : Nat → zT} {I : Nat → Nat → Int} {P : Nat → Nat → Option Nat} {G : Nat → Nat → Int} (hT : ∀ a, 56 ≤ a → a ≤ 90 → T a = zFix a) (hw : zWf zMd (n, sl, T, I, P, G)) (hrl : zRl I) {q w : Int} (hq : 0 ≤ q ∧ q ≤ 1) (h164 : I 57 (56100 * q + 164).toNat = w) : zHt q w I := by
  intro l h0 h1 fo hfo
  obtain ⟨g1, g2, g3⟩ := hrl
  have hm := (g3 57 q.toNat (Or.inl rfl) (by omega)).2.2.2.2.2 l.toNat (by rw [show 56100 * q.toNat + 164 = (56100 * q + 164).toNat by omega, h164]; omega)
  rw [show 56100 * q.toNat + 1941 + 66 * l.toNat = (56100 * q + 1940 + 66 * l + 1).toNat by omega, ← hfo] at hm
  have h89 := hw.2.1 57 (56100 * q + 164).toNat
  rw [show (n, sl, T, I, P, G).2.2.1 57 = T 57 from rfl, hT 57 (by decide) (by decide)] at h89
  have h89 : 0 ≤ I 57 (56100 * q + 164).toNat ∧ I 57 (56100 * q + 164).toNat ≤ 89 := ok_lines h89 (by omega)
  have hk := hw.2.1 57 (56100 * q + 1940 + 66 * l + 1).toNat
  rw [show (n, sl, T, I, P, G).2.2.1 57 = T 57 from rfl, hT 57 (by decide) (by decide)] at hk
  have hk : 0 ≤ I 57 (56100 * q + 1940 + 66 * l + 1).toNat ∧ I 57 (56100 * q + 1940 + 66 * l + 1).toNat ≤ 3 := ok_lfount hk (by omega)
  rw [← hfo] at hk
  rw [show (4 * q + fo).toNat = 4 * q.toNat + fo.toNat by omega]
  exact g2 _ (by omega) hm
/-- while pages are made: of the room q its pages' rows alone have changed -/
def zMk (q : Int) (I I2 : Nat → Nat → Int) : Prop := ∀ a k : Nat, ((a = 57 ∧ 56100 * q + 170 ≤ (k : Int) ∧ (k : Int) < 56100 * q + 1887) ∨ a = 88 ∨ (a = 56 ∧ (k = 44 ∨ k = 45))) ∨ I2 a k = I a k
theorem zMk_rf (q : Int) (I : Nat → Nat → Int) : zMk q I I := fun _ _ => Or.inr rfl
theorem zMk_tr {q : Int} {I I2 I3 : Nat → Nat → Int} (h : zMk q I I2) (h2 : zMk q I2 I3) : zMk q I I3 := by
  intro a k
  rcases h2 a k with e | e
  · exact Or.inl e
  · rcases h a k with e2 | e2
    · exact Or.inl e2
    · exact Or.inr (e.trans e2)
theorem zMk_pg {q : Int} {I I2 I3 : Nat → Nat → Int} (h : zMk q I I2) (h2 : zPg I2 I3) : zMk q I I3 := zMk_tr h (fun a k => by
  rcases h2 a k with e | e
  · exact Or.inl (by omega)
  · exact Or.inr e)
theorem zMk_u {q : Int} {I I2 : Nat → Nat → Int} {a k : Nat} {v : Int} (h : zMk q I I2) (ha : (a = 57 ∧ 56100 * q + 170 ≤ (k : Int) ∧ (k : Int) < 56100 * q + 1887) ∨ a = 88 ∨ (a = 56 ∧ (k = 44 ∨ k = 45))) : zMk q I (zU I2 a k v) := by
  intro b j
  by_cases e : b = a ∧ j = k
  · obtain ⟨rfl, rfl⟩ := e; exact Or.inl ha
  · rcases h b j with e2 | e2
    · exact Or.inl e2
    · refine Or.inr ?_
      rw [← e2]
      simp [zU, e]
theorem zMk_n {q : Int} {I I2 : Nat → Nat → Int} {k : Nat} {v : Int} (h : zMk q I I2) (hk : 56100 * q + 170 ≤ (k : Int) ∧ (k : Int) < 56100 * q + 1887) : zMk q I (zU I2 57 k v) := zMk_u h (Or.inl ⟨rfl, hk⟩)
theorem zMk_f {q : Int} {I I2 : Nat → Nat → Int} {k : Nat} {v : Int} (h : zMk q I I2) (hk : k = 44 ∨ k = 45) : zMk q I (zU I2 56 k v) := zMk_u h (Or.inr (Or.inr ⟨rfl, hk⟩))
theorem zMk_k {q : Int} {I I2 : Nat → Nat → Int} {k : Nat} {v : Int} (h : zMk q I I2) (hk : k ≠ 44 ∧ k ≠ 45) (hv : I 56 k = v) : I2 56 k = v := by
  rw [(h 56 k).resolve_left (by omega)]; exact hv
theorem zMk_89 {q : Int} {I I2 : Nat → Nat → Int} {k : Nat} {v : Int} (h : zMk q I I2) (hv : I 89 k = v) : I2 89 k = v := by
  rw [(h 89 k).resolve_left (by omega)]; exact hv
theorem zHt_m {q n : Int} {I I2 : Nat → Nat → Int} (h : zHt q n I) (hq : 0 ≤ q) (hp : zMk q I I2) : zHt q n I2 := by
  intro l h0 h1 fo hfo
  rw [(hp 74 _).resolve_left (by omega)]
  rw [(hp 57 _).resolve_left (by omega)] at hfo
  exact h l h0 h1 fo hfo
/-- the first p pages have x lines together -/
def zPs (q p x : Int) (I : Nat → Nat → Int) : Prop := zSum (I 57) (56100 * q + 171).toNat 17 p.toNat = x
theorem zPs_0 {q : Int} {I : Nat → Nat → Int} : zPs q 0 0 I := rfl
theorem zPs_p {q p x : Int} {I I2 : Nat → Nat → Int} (h : zPs q p x I) (hp : zPg I I2) : zPs q p x I2 := by
  unfold zPs
  rw [zSum_eq (f := I 57) (fun j hj => (hp 57 _).resolve_left (by omega))]
  exact h
theorem zPs_f {q p x v : Int} {a k : Nat} {I : Nat → Nat → Int} (h : zPs q p x I) (ha : a ≠ 57) : zPs q p x (zU I a k v) := by
  unfold zPs
  rw [zU_row _ _ _ (Ne.symm ha)]
  exact h
theorem zPs_u {q p x v e : Int} {I : Nat → Nat → Int} (h : zPs q p x I) (h0 : 0 ≤ q ∧ 0 ≤ p ∧ 0 ≤ e) (hk : 56100 * q + 171 + 17 * p ≤ e ∨ (e - 56100 * q - 171) % 17 ≠ 0) : zPs q p x (zU I 57 e.toNat v) := by
  unfold zPs
  rw [zSum_eq (f := I 57) (fun j hj => zU_at _ _ _ (by omega))]
  exact h
theorem zPs_s {q p x s e : Int} {I : Nat → Nat → Int} (h : zPs q p x I) (h0 : 0 ≤ q ∧ 0 ≤ p) (he : e = 56100 * q + 171 + 17 * p) : zPs q (p + 1) (x + s) (zU I 57 e.toNat s) := by
  unfold zPs
  rw [show (p + 1).toNat = p.toNat + 1 by omega]
  show zSum _ _ 17 p.toNat + zU I 57 e.toNat s 57 ((56100 * q + 171).toNat + 17 * p.toNat) = x + s
  rw [show (56100 * q + 171).toNat + 17 * p.toNat = e.toNat by omega, zU_same, zSum_eq (f := I 57) (fun j hj => zU_at _ _ _ (by omega))]
  have h : zSum (I 57) (56100 * q + 171).toNat 17 p.toNat = x := h
  rw [h]
/-- of 'now' the room q alone has changed, and of the rest what zRl says nothing of -/
def zFo (q : Int) (I I2 : Nat → Nat → Int) : Prop := ∀ a k : Nat, (a = 57 ∧ 56100 * q ≤ (k : Int) ∧ (k : Int) < 56100 * q + 56100) ∨ zNr a k ∨ I2 a k = I a k
theorem zFr_o {q : Int} {I I2 : Nat → Nat → Int} (hq : 0 ≤ q ∧ q ≤ 1) (h : zFo q I I2) (hm : zRl I → zRm I2 57 (56100 * q.toNat) q.toNat) : zFr I I2 := by
  have ho : ∀ a k, a ≠ 57 → ¬ zNr a k → I2 a k = I a k := fun a k h1 h2 => by
    rcases h a k with e | e | e
    · exact absurd e.1 h1
    · exact absurd e h2
    · exact e
  refine ⟨fun a k => ?_, fun hr => ?_⟩
  · rcases h a k with e | e | e
    · obtain ⟨rfl, _⟩ := e; exact Or.inl ⟨by omega, by omega, by omega, by omega⟩
    · exact Or.inl e.1
    · exact Or.inr e
  · have hm := hm hr
    obtain ⟨h1, h2, h3⟩ := hr
    have e80 : ∀ t, I2 80 t = I 80 t := fun t => ho 80 t (by omega) (fun hn => hn.2.1 rfl)
    have e81 : ∀ t, I2 81 t = I 81 t := fun t => ho 81 t (by omega) (fun hn => hn.2.2.1 rfl)
    have e61 : ∀ t, I2 61 t = I 61 t := fun t => ho 61 t (by omega) (fun hn => hn.2.2.2.1 rfl)
    have e74 : ∀ t, I2 74 t = I 74 t := fun t => ho 74 t (by omega) (fun hn => hn.2.2.2.2.1 rfl)
    refine ⟨fun t => by rw [e80, e81]; exact h1 t, fun i => by rw [e61, e74]; exact h2 i, fun A r hA hr => ?_⟩
    by_cases hAr : A = 57 ∧ r = q.toNat
    · obtain ⟨rfl, rfl⟩ := hAr; exact hm
    · have eA : ∀ k, 56100 * r ≤ k → k < 56100 * r + 56100 → ¬ zNo (k % 56100) → I2 A k = I A k := fun k k1 k2 k3 => by
        rcases h A k with e | e | e
        · omega
        · exact absurd (e.2.2.2.2.2 hA) k3
        · exact e
      obtain ⟨g1, g2, g3, g4, g5, g6⟩ := h3 A r hA hr
      have e164 : I2 A (56100 * r + 164) = I A (56100 * r + 164) := eA _ (by omega) (by omega) (by unfold zNo; omega)
      have e165 : I2 A (56100 * r + 165) = I A (56100 * r + 165) := eA _ (by omega) (by omega) (by unfold zNo; omega)
      have e166 : I2 A (56100 * r + 166) = I A (56100 * r + 166) := eA _ (by omega) (by omega) (by unfold zNo; omega)
      have e167 : I2 A (56100 * r + 167) = I A (56100 * r + 167) := eA _ (by omega) (by omega) (by unfold zNo; omega)
      have s1 : zSum (I2 A) (56100 * r + 1901) 2 (I A (56100 * r + 166)).toNat = zSum (I A) (56100 * r + 1901) 2 (I A (56100 * r + 166)).toNat := zSum_eq (fun j hj => eA _ (by omega) (by omega) (by unfold zNo; omega))
      have s2 : zSum (I2 A) (56100 * r + 171) 17 (I A (56100 * r + 165)).toNat = zSum (I A) (56100 * r + 171) 17 (I A (56100 * r + 165)).toNat := zSum_eq (fun j hj => eA _ (by omega) (by omega) (by unfold zNo; omega))
      unfold zRm
      rw [e164, e165, e166, e167, s1, s2]
      refine ⟨g1, g2, g3, g4, g5, ?_⟩
      intro l hl
      have el : I2 A (56100 * r + 1941 + 66 * l) = I A (56100 * r + 1941 + 66 * l) := eA _ (by omega) (by omega) (by unfold zNo; omega)
      rw [el, e61]
      exact g6 l hl
theorem zMk_end {q p w : Int} {I I2 : Nat → Nat → Int} (h : zMk q I I2) (hs : zPs q p w I2) (hq : 0 ≤ q ∧ q ≤ 1) (hp : 0 ≤ p ∧ p ≤ 89) (h164 : I 57 (56100 * q + 164).toNat = w) : zFr I (zU I2 57 (56100 * q + 165).toNat p) := by
  have hk : ∀ k, k ≠ (56100 * q + 165).toNat → zU I2 57 (56100 * q + 165).toNat p 57 k = I2 57 k := fun k e => zU_at _ _ _ e
  have hp5 : zU I2 57 (56100 * q + 165).toNat p 57 (56100 * q + 165).toNat = p := zU_same _ _ _ _
  have hc : ∀ c, c ≠ 57 → zU I2 57 (56100 * q + 165).toNat p c = I2 c := fun c e => zU_row _ _ _ e
  generalize zU I2 57 (56100 * q + 165).toNat p = J at hk hp5 hc
  have hn : ∀ k : Nat, ((k : Int) < 56100 * q + 165 ∨ (k : Int) = 56100 * q + 166 ∨ (k : Int) = 56100 * q + 167 ∨ 56100 * q + 1887 ≤ (k : Int)) → J 57 k = I 57 k := fun k e => by
    rw [hk k (by omega)]
    exact (h 57 k).resolve_left (by omega)
  refine zFr_o hq (fun a k => ?_) (fun hr => ?_)
  · by_cases e : a = 57
    · subst e
      by_cases e2 : 56100 * q ≤ (k : Int) ∧ (k : Int) < 56100 * q + 56100
      · exact Or.inl ⟨rfl, e2⟩
      · exact Or.inr (Or.inr (hn k (by omega)))
    · rw [hc a e]
      rcases h a k with e2 | e2
      · refine Or.inr (Or.inl ?_)
        rcases e2 with e3 | rfl | ⟨rfl, e3⟩
        · exact absurd e3.1 e
        · exact zNr_a (by decide)
        · exact zNr_f (by omega)
      · exact Or.inr (Or.inr e2)
  · obtain ⟨h1, h2, h3⟩ := hr
    obtain ⟨g1, g2, g3, g4, g5, g6⟩ := h3 57 q.toNat (Or.inl rfl) (by omega)
    have k5 : (56100 * q + 165).toNat = 56100 * q.toNat + 165 := by omega
    rw [k5] at hp5
    have e164 : J 57 (56100 * q.toNat + 164) = I 57 (56100 * q.toNat + 164) := hn _ (by omega)
    have e166 : J 57 (56100 * q.toNat + 166) = I 57 (56100 * q.toNat + 166) := hn _ (by omega)
    have e167 : J 57 (56100 * q.toNat + 167) = I 57 (56100 * q.toNat + 167) := hn _ (by omega)
    have s1 : zSum (J 57) (56100 * q.toNat + 1901) 2 (I 57 (56100 * q.toNat + 166)).toNat = zSum (I 57) (56100 * q.toNat + 1901) 2 (I 57 (56100 * q.toNat + 166)).toNat := zSum_eq (fun j hj => hn _ (by omega))
    have s2 : zSum (J 57) (56100 * q.toNat + 171) 17 p.toNat = I 57 (56100 * q.toNat + 164) := by
      rw [zSum_eq (f := I2 57) (fun j hj => hk _ (by omega)), show 56100 * q.toNat + 171 = (56100 * q + 171).toNat by omega, show 56100 * q.toNat + 164 = (56100 * q + 164).toNat by omega, h164]
      exact hs
    unfold zRm
    rw [e164, hp5, e166, e167, s1, s2]
    refine ⟨g1, hp, g3, g4, Or.inr rfl, fun l hl => ?_⟩
    rw [hn _ (by omega)]
    rw [hc 61 (by omega), (h 61 _).resolve_left (by omega)]
    exact g6 l hl
