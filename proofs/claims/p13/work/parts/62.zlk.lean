/-! pages that are locked up, formes that go -/
theorem zSum_le {f : Nat → Int} {o d m : Nat} : ∀ {k : Nat}, m ≤ k → (∀ j, j < k → 0 ≤ f (o + d * j)) → zSum f o d m ≤ zSum f o d k
  | 0, h, _ => by rw [show m = 0 by omega]; exact Int.le_refl _
  | k + 1, h, hf => by
    by_cases e : m = k + 1
    · rw [e]; exact Int.le_refl _
    · have h1 := zSum_le (f := f) (o := o) (d := d) (m := m) (k := k) (by omega) (fun j hj => hf j (by omega))
      have h2 := hf k (by omega)
      show _ ≤ zSum f o d k + f (o + d * k)
      omega
theorem zSum_ub {f : Nat → Int} {o d : Nat} {c : Int} : ∀ {k : Nat}, (∀ j, j < k → f (o + d * j) ≤ c) → zSum f o d k ≤ c * k
  | 0, _ => by show (0 : Int) ≤ _; simp
  | k + 1, hf => by
    have h1 := zSum_ub (f := f) (o := o) (d := d) (c := c) (k := k) (fun j hj => hf j (by omega))
    have h2 := hf k (by omega)
    show zSum f o d k + f (o + d * k) ≤ c * ((k + 1 : Nat) : Int)
    rw [show ((k + 1 : Nat) : Int) = (k : Int) + 1 from rfl, Int.mul_add]
    omega
theorem zSum_del {f g : Nat → Int} {o k : Nat} : ∀ {m : Nat}, k ≤ m → (∀ j, j < k → g (o + 2 * j) = f (o + 2 * j)) → (∀ j, k ≤ j → j < m → g (o + 2 * j) = f (o + 2 * (j + 1))) → zSum g o 2 m = zSum f o 2 (m + 1) - f (o + 2 * k)
  | 0, h, h1, _ => by
    rw [show k = 0 by omega]
    show (0 : Int) = 0 + f (o + 2 * 0) - f (o + 2 * 0)
    omega
  | m + 1, h, h1, h2 => by
    by_cases e : k = m + 1
    · subst e
      show _ = zSum f o 2 (m + 1) + f (o + 2 * (m + 1)) - f (o + 2 * (m + 1))
      rw [zSum_eq h1]; omega
    · have h3 := zSum_del (f := f) (g := g) (o := o) (k := k) (m := m) (by omega) h1 (fun j a b => h2 j a (by omega))
      have h4 := h2 m (by omega) (by omega)
      show zSum g o 2 m + g (o + 2 * m) = zSum f o 2 (m + 1) + f (o + 2 * (m + 1)) - _
      rw [h3, h4]; omega
/-- a place of a line's row, moved to the same place of another's -/
theorem st_mv {i j : Nat} {v : Int} (h : zok (2, 0, [112200, 1]) i v) (hi : 1940 ≤ i % 56100 ∧ i % 56100 < 56060) (hj : 1940 ≤ j % 56100 ∧ j % 56100 < 56060) (he : (i % 56100 - 1940) % 66 = (j % 56100 - 1940) % 66) : zok (2, 0, [112200, 1]) j v := by
  have h : zokN i v := h
  show zokN j v
  refine ⟨fun h => ?_, fun h => ?_, fun h => ?_, fun h => ?_, fun h => ?_, fun h => ⟨fun h2 => ?_, fun h2 => ?_⟩, fun h => ?_, fun _ => ?_⟩
  all_goals first
    | (exfalso; omega)
    | (rw [← he]; exact h.2.2.2.2.2.2.2 hi)
theorem st_fm {i j : Nat} {v : Int} (h : zok (2, 0, [112200, 1]) i v) (hi : 1900 ≤ i % 56100 ∧ i % 56100 < 1940) (hj : 1900 ≤ j % 56100 ∧ j % 56100 < 1940) (he : i % 56100 % 2 = j % 56100 % 2) : zok (2, 0, [112200, 1]) j v := by
  have h : zokN i v := h
  show zokN j v
  refine ⟨fun h => ?_, fun h => ?_, fun h => ?_, fun h => ?_, fun h => ?_, fun h => ⟨fun h2 => ?_, fun h2 => ?_⟩, fun h3 => ?_, fun h => ⟨fun h2 => ?_, fun h2 => ?_, fun h2 => ?_, fun h2 => ?_, fun h2 => ?_⟩⟩
  all_goals first
    | (exfalso; omega)
    | exact h.2.2.2.2.2.2.1 (by omega)
/-- while pages are locked up: the room's formes, its locked lines, the numbers that were given -/
def zLq (q : Int) (I I2 : Nat → Nat → Int) : Prop := ∀ a k : Nat, ((a = 57 ∧ ((56100 * q + 1900 ≤ (k : Int) ∧ (k : Int) < 56100 * q + 1940) ∨ (56100 * q + 8540 ≤ (k : Int) ∧ (k : Int) < 56100 * q + 56060))) ∨ (a = 56 ∧ k = 6)) ∨ I2 a k = I a k
theorem zLq_rf (q : Int) (I : Nat → Nat → Int) : zLq q I I := fun _ _ => Or.inr rfl
theorem zLq_u {q : Int} {I I2 : Nat → Nat → Int} {a k : Nat} {v : Int} (h : zLq q I I2) (ha : (a = 57 ∧ ((56100 * q + 1900 ≤ (k : Int) ∧ (k : Int) < 56100 * q + 1940) ∨ (56100 * q + 8540 ≤ (k : Int) ∧ (k : Int) < 56100 * q + 56060))) ∨ (a = 56 ∧ k = 6)) : zLq q I (zU I2 a k v) := by
  intro b j
  by_cases e : b = a ∧ j = k
  · obtain ⟨rfl, rfl⟩ := e; exact Or.inl ha
  · rcases h b j with e2 | e2
    · exact Or.inl e2
    · refine Or.inr ?_
      rw [← e2]
      simp [zU, e]
theorem zLq_n {q : Int} {I I2 : Nat → Nat → Int} {k : Nat} {v : Int} (h : zLq q I I2) (hk : (56100 * q + 1900 ≤ (k : Int) ∧ (k : Int) < 56100 * q + 1940) ∨ (56100 * q + 8540 ≤ (k : Int) ∧ (k : Int) < 56100 * q + 56060)) : zLq q I (zU I2 57 k v) := zLq_u h (Or.inl ⟨rfl, hk⟩)
theorem zLq_f {q : Int} {I I2 : Nat → Nat → Int} {v : Int} (h : zLq q I I2) : zLq q I (zU I2 56 6 v) := zLq_u h (Or.inr ⟨rfl, rfl⟩)
theorem zLq_k {q v : Int} {I I2 : Nat → Nat → Int} {k : Nat} (h : zLq q I I2) (hk : k ≠ 6) (hv : I 56 k = v) : I2 56 k = v := by
  rw [(h 56 k).resolve_left (by omega)]; exact hv
theorem zLq_57 {q v : Int} {I I2 : Nat → Nat → Int} {k : Nat} (h : zLq q I I2) (hk : ¬ ((56100 * q + 1900 ≤ (k : Int) ∧ (k : Int) < 56100 * q + 1940) ∨ (56100 * q + 8540 ≤ (k : Int) ∧ (k : Int) < 56100 * q + 56060))) (hv : I 57 k = v) : I2 57 k = v := by
  rw [(h 57 k).resolve_left (by omega)]; exact hv
/-- the formes' lines while k pages are locked up -/
def zLs (q F k : Int) (I I2 : Nat → Nat → Int) : Prop := zSum (I2 57) (56100 * q + 1901).toNat 2 (F + k).toNat = zSum (I 57) (56100 * q + 1901).toNat 2 F.toNat + zSum (I 57) (56100 * q + 171).toNat 17 k.toNat
theorem zLs_0 {q F : Int} {I : Nat → Nat → Int} : zLs q F 0 I I := by
  unfold zLs
  rw [show F + 0 = F by omega]
  show _ = _ + (0 : Int)
  omega
theorem zLs_s {q F k v x x2 e e0 : Int} {I I2 : Nat → Nat → Int} (hq : 0 ≤ q) (hF : 0 ≤ F) (hk : 0 ≤ k) (hl : zLq q I I2) (h : zLs q F k I I2) (hv : v = zU (zU I2 56 6 x) 57 e0.toNat x2 57 (56100 * q + 170 + 17 * k + 1).toNat) (hkk : k ≤ 12 ∧ F ≤ 12) (he0 : e0 = 56100 * q + 1900 + 2 * (F + k)) (he : e = 56100 * q + 1900 + 2 * (F + k) + 1) : zLs q F (k + 1) I (zU (zU (zU I2 56 6 x) 57 e0.toNat x2) 57 e.toNat v) := by
  unfold zLs at h ⊢
  rw [show (F + (k + 1)).toNat = (F + k).toNat + 1 by omega, show (k + 1).toNat = k.toNat + 1 by omega]
  show zSum _ _ 2 (F + k).toNat + zU (zU (zU I2 56 6 x) 57 e0.toNat x2) 57 e.toNat v 57 ((56100 * q + 1901).toNat + 2 * (F + k).toNat) = _ + (zSum (I 57) (56100 * q + 171).toNat 17 k.toNat + I 57 ((56100 * q + 171).toNat + 17 * k.toNat))
  rw [show (56100 * q + 1901).toNat + 2 * (F + k).toNat = e.toNat by omega, zU_same, zSum_eq (f := I2 57) (fun j hj => by rw [zU_at _ _ _ (by omega), zU_at _ _ _ (by omega), zU_row _ _ _ (by omega)]), h]
  have hv2 : v = I 57 ((56100 * q + 171).toNat + 17 * k.toNat) := by
    rw [hv, zU_at _ _ _ (by omega), zU_row _ _ _ (by omega), (hl 57 _).resolve_left (by omega), show (56100 * q + 170 + 17 * k + 1).toNat = (56100 * q + 171).toNat + 17 * k.toNat by omega]
  omega
theorem zLs_n {q F k v : Int} {j : Nat} {I I2 : Nat → Nat → Int} (h : zLs q F k I I2) (hF : 0 ≤ q ∧ F + k ≤ 12) (hj : 56100 * q + 8540 ≤ (j : Int) ∨ (j : Int) < 56100 * q + 1900) : zLs q F k I (zU I2 57 j v) := by
  unfold zLs at h ⊢
  rw [zSum_eq (f := I2 57) (fun j hj => zU_at _ _ _ (by omega))]
  exact h
theorem zLs_720 {n sl : Nat} {T : Nat → zT} {I I2 : Nat → Nat → Int} {P : Nat → Nat → Option Nat} {G : Nat → Nat → Int} (hT : ∀ a, 56 ≤ a → a ≤ 90 → T a = zFix a) (hw : zWf zMd (n, sl, T, I2, P, G)) {q F g d w : Int} (hq : 0 ≤ q) (hF : 0 ≤ F) (hg : 0 ≤ g) (hFg : F + g ≤ 12) (h : zLs q F g I I2) (hd : zSum (I 57) (56100 * q + 1901).toNat 2 F.toNat = d) (hwp : zSum (I 57) (56100 * q + 171).toNat 17 g.toNat = w) : d + w ≤ 720 := by
  unfold zLs at h
  rw [hd, hwp] at h
  have h2 := zSum_ub (f := I2 57) (o := (56100 * q + 1901).toNat) (d := 2) (c := 60) (k := (F + g).toNat) (fun j hj => by
    have hk := hw.2.1 57 ((56100 * q + 1901).toNat + 2 * j)
    rw [show (n, sl, T, I2, P, G).2.2.1 57 = T 57 from rfl, hT 57 (by decide) (by decide)] at hk
    exact (ok_fl hk (by omega)).2)
  omega
theorem zLq_end {q F g d w : Int} {I I2 : Nat → Nat → Int} (h : zLq q I I2) (hs : zLs q F g I I2) (hq : 0 ≤ q ∧ q ≤ 1) (hF : 0 ≤ F ∧ 0 ≤ g ∧ F + g ≤ 12) (hd : zSum (I 57) (56100 * q + 1901).toNat 2 F.toNat = d) (hwp : zSum (I 57) (56100 * q + 171).toNat 17 g.toNat = w) : zFr I (zU (zU (zU (zU I2 57 (56100 * q + 167).toNat (d + w)) 57 (56100 * q + 166).toNat (F + g)) 57 (56100 * q + 164).toNat 0) 57 (56100 * q + 165).toNat 0) := by
  have hk : ∀ k, k ≠ (56100 * q + 167).toNat → k ≠ (56100 * q + 166).toNat → k ≠ (56100 * q + 164).toNat → k ≠ (56100 * q + 165).toNat → zU (zU (zU (zU I2 57 (56100 * q + 167).toNat (d + w)) 57 (56100 * q + 166).toNat (F + g)) 57 (56100 * q + 164).toNat 0) 57 (56100 * q + 165).toNat 0 57 k = I2 57 k := fun k h1 h2 h3 h4 => by rw [zU_at _ _ _ h4, zU_at _ _ _ h3, zU_at _ _ _ h2, zU_at _ _ _ h1]
  have h5 : zU (zU (zU (zU I2 57 (56100 * q + 167).toNat (d + w)) 57 (56100 * q + 166).toNat (F + g)) 57 (56100 * q + 164).toNat 0) 57 (56100 * q + 165).toNat 0 57 (56100 * q + 165).toNat = 0 := zU_same _ _ _ _
  have h4 : zU (zU (zU (zU I2 57 (56100 * q + 167).toNat (d + w)) 57 (56100 * q + 166).toNat (F + g)) 57 (56100 * q + 164).toNat 0) 57 (56100 * q + 165).toNat 0 57 (56100 * q + 164).toNat = 0 := by rw [zU_at _ _ _ (by omega), zU_same]
  have h6 : zU (zU (zU (zU I2 57 (56100 * q + 167).toNat (d + w)) 57 (56100 * q + 166).toNat (F + g)) 57 (56100 * q + 164).toNat 0) 57 (56100 * q + 165).toNat 0 57 (56100 * q + 166).toNat = F + g := by rw [zU_at _ _ _ (by omega), zU_at _ _ _ (by omega), zU_same]
  have h7 : zU (zU (zU (zU I2 57 (56100 * q + 167).toNat (d + w)) 57 (56100 * q + 166).toNat (F + g)) 57 (56100 * q + 164).toNat 0) 57 (56100 * q + 165).toNat 0 57 (56100 * q + 167).toNat = d + w := by rw [zU_at _ _ _ (by omega), zU_at _ _ _ (by omega), zU_at _ _ _ (by omega), zU_same]
  have hc : ∀ c, c ≠ 57 → zU (zU (zU (zU I2 57 (56100 * q + 167).toNat (d + w)) 57 (56100 * q + 166).toNat (F + g)) 57 (56100 * q + 164).toNat 0) 57 (56100 * q + 165).toNat 0 c = I2 c := fun c e => by rw [zU_row _ _ _ e, zU_row _ _ _ e, zU_row _ _ _ e, zU_row _ _ _ e]
  generalize zU (zU (zU (zU I2 57 (56100 * q + 167).toNat (d + w)) 57 (56100 * q + 166).toNat (F + g)) 57 (56100 * q + 164).toNat 0) 57 (56100 * q + 165).toNat 0 = J at hk h4 h5 h6 h7 hc
  refine zFr_o hq (fun a k => ?_) (fun hr => ?_)
  · by_cases e : a = 57
    · subst e
      by_cases e2 : 56100 * q ≤ (k : Int) ∧ (k : Int) < 56100 * q + 56100
      · exact Or.inl ⟨rfl, e2⟩
      · exact Or.inr (Or.inr (by rw [hk k (by omega) (by omega) (by omega) (by omega)]; exact (h 57 k).resolve_left (by omega)))
    · rw [hc a e]
      rcases h a k with e2 | e2
      · refine Or.inr (Or.inl ?_)
        rcases e2 with e3 | ⟨rfl, rfl⟩
        · exact absurd e3.1 e
        · exact zNr_f (by omega)
      · exact Or.inr (Or.inr e2)
  · unfold zRm
    rw [show 56100 * q.toNat + 164 = (56100 * q + 164).toNat by omega, show 56100 * q.toNat + 165 = (56100 * q + 165).toNat by omega, show 56100 * q.toNat + 166 = (56100 * q + 166).toNat by omega, show 56100 * q.toNat + 167 = (56100 * q + 167).toNat by omega, show 56100 * q.toNat + 1901 = (56100 * q + 1901).toNat by omega, h4, h5, h6, h7]
    refine ⟨by omega, by omega, by omega, ?_, Or.inl rfl, fun l hl => by omega⟩
    rw [zSum_eq (f := I2 57) (fun j hj => hk _ (by omega) (by omega) (by omega) (by omega))]
    unfold zLs at hs
    rw [hs, hd, hwp]
/-- while a forme goes: boxes, and the room's locked lines -/
def zDb (q : Int) (I I2 : Nat → Nat → Int) : Prop := ∀ a k : Nat, (a = 57 ∧ (k % 56100 < 144 ∨ (56100 * q + 8540 ≤ (k : Int) ∧ (k : Int) < 56100 * q + 56060))) ∨ I2 a k = I a k
theorem zDb_b {q : Int} {I I2 : Nat → Nat → Int} (h : zFb I I2) : zDb q I I2 := fun a k => by
  rcases h a k with e | e
  · exact Or.inl (by omega)
  · exact Or.inr e
theorem zDb_n {q : Int} {I I2 : Nat → Nat → Int} {k : Nat} {v : Int} (h : zDb q I I2) (hk : 56100 * q + 8540 ≤ (k : Int) ∧ (k : Int) < 56100 * q + 56060) : zDb q I (zU I2 57 k v) := by
  intro b j
  by_cases e : b = 57 ∧ j = k
  · obtain ⟨rfl, rfl⟩ := e; exact Or.inl (by omega)
  · rcases h b j with e2 | e2
    · exact Or.inl e2
    · refine Or.inr ?_
      rw [← e2]
      simp [zU, e]
theorem zDb_k {q v : Int} {I I2 : Nat → Nat → Int} {k : Nat} (h : zDb q I I2) (hv : I 56 k = v) : I2 56 k = v := by
  rw [(h 56 k).resolve_left (by omega)]; exact hv
theorem zDb_57 {q v : Int} {I I2 : Nat → Nat → Int} {k : Nat} (h : zDb q I I2) (hk : ¬ (k % 56100 < 144 ∨ (56100 * q + 8540 ≤ (k : Int) ∧ (k : Int) < 56100 * q + 56060))) (hv : I 57 k = v) : I2 57 k = v := by
  rw [(h 57 k).resolve_left (by omega)]; exact hv
/-- the formes' rows move up -/
def zDc (q c i : Int) (I I2 : Nat → Nat → Int) : Prop := (∀ a j : Nat, (a = 57 ∧ 56100 * q + 1900 ≤ (j : Int) ∧ (j : Int) < 56100 * q + 1940) ∨ I2 a j = I a j) ∧ (∀ j : Nat, j < 38 → (2 * c ≤ (j : Int) ∧ (j : Int) < i → I2 57 ((56100 * q + 1900).toNat + j) = I 57 ((56100 * q + 1900).toNat + (j + 2))) ∧ (¬ (2 * c ≤ (j : Int) ∧ (j : Int) < i) → I2 57 ((56100 * q + 1900).toNat + j) = I 57 ((56100 * q + 1900).toNat + j)))
theorem zDc_0 {q c : Int} {I : Nat → Nat → Int} : zDc q c (2 * c) I I := ⟨fun _ _ => Or.inr rfl, fun j _ => ⟨fun e => by omega, fun _ => rfl⟩⟩
theorem zDc_s {q c i v e e2 : Int} {I I2 : Nat → Nat → Int} (h : zDc q c i I I2) (hq : 0 ≤ q) (hc : 0 ≤ c) (hi : 2 * c ≤ i ∧ i < 36) (hv : v = I2 57 e2.toNat) (he : e = 56100 * q + 1900 + i) (he2 : e2 = 56100 * q + 1900 + i + 2) : zDc q c (i + 1) I (zU I2 57 e.toNat v) := by
  obtain ⟨h1, h2⟩ := h
  have hv2 : v = I 57 ((56100 * q + 1900).toNat + (i.toNat + 2)) := by
    rw [hv, show e2.toNat = (56100 * q + 1900).toNat + (i.toNat + 2) by omega]
    exact (h2 (i.toNat + 2) (by omega)).2 (by omega)
  refine ⟨fun a j => ?_, fun j hj => ?_⟩
  · by_cases e3 : a = 57 ∧ j = e.toNat
    · obtain ⟨rfl, rfl⟩ := e3; exact Or.inl (by omega)
    · rcases h1 a j with e4 | e4
      · exact Or.inl e4
      · refine Or.inr ?_
        rw [← e4]
        simp [zU, e3]
  · by_cases e3 : j = i.toNat
    · subst e3
      rw [show (56100 * q + 1900).toNat + i.toNat = e.toNat by omega, zU_same]
      exact ⟨fun _ => hv2, fun e5 => by omega⟩
    · rw [zU_at _ _ _ (by omega)]
      exact ⟨fun e5 => (h2 j hj).1 (by omega), fun e5 => (h2 j hj).2 (by omega)⟩
theorem zDc_k {q c i v : Int} {I I2 : Nat → Nat → Int} {k : Nat} (h : zDc q c i I I2) (hv : I 56 k = v) : I2 56 k = v := by
  rw [(h.1 56 k).resolve_left (by omega)]; exact hv
theorem zDc_57 {q c i v : Int} {I I2 : Nat → Nat → Int} {k : Nat} (h : zDc q c i I I2) (hk : ¬ (56100 * q + 1900 ≤ (k : Int) ∧ (k : Int) < 56100 * q + 1940)) (hv : I 57 k = v) : I2 57 k = v := by
  rw [(h.1 57 k).resolve_left (by omega)]; exact hv
theorem zDi_end {q c F d y : Int} {I I2 I3 : Nat → Nat → Int} (hq : 0 ≤ q ∧ q ≤ 1) (hc : 0 ≤ c ∧ c < F ∧ F ≤ 12) (h : zDb q I I2) (hF : I 57 (56100 * q + 166).toNat = F) (hd : I 57 (56100 * q + 167).toNat = d) (hy : y = I 57 (56100 * q + 1901 + 2 * c).toNat) (h3 : zDc q c (2 * (F - 1)) (zU (zU I2 57 (56100 * q + 167).toNat (d - y)) 57 (56100 * q + 166).toNat (F - 1)) I3) : zFr I I3 := by
  have hk : ∀ k, k ≠ (56100 * q + 167).toNat → k ≠ (56100 * q + 166).toNat → zU (zU I2 57 (56100 * q + 167).toNat (d - y)) 57 (56100 * q + 166).toNat (F - 1) 57 k = I2 57 k := fun k h1 h2 => by rw [zU_at _ _ _ h2, zU_at _ _ _ h1]
  have h6 : zU (zU I2 57 (56100 * q + 167).toNat (d - y)) 57 (56100 * q + 166).toNat (F - 1) 57 (56100 * q + 166).toNat = F - 1 := zU_same _ _ _ _
  have h7 : zU (zU I2 57 (56100 * q + 167).toNat (d - y)) 57 (56100 * q + 166).toNat (F - 1) 57 (56100 * q + 167).toNat = d - y := by rw [zU_at _ _ _ (by omega), zU_same]
  have hcc : ∀ c, c ≠ 57 → zU (zU I2 57 (56100 * q + 167).toNat (d - y)) 57 (56100 * q + 166).toNat (F - 1) c = I2 c := fun c e => by rw [zU_row _ _ _ e, zU_row _ _ _ e]
  generalize zU (zU I2 57 (56100 * q + 167).toNat (d - y)) 57 (56100 * q + 166).toNat (F - 1) = J at hk h6 h7 hcc h3
  have hn : ∀ k : Nat, ¬ (k % 56100 < 144 ∨ (56100 * q + 8540 ≤ (k : Int) ∧ (k : Int) < 56100 * q + 56060)) → ¬ (56100 * q + 1900 ≤ (k : Int) ∧ (k : Int) < 56100 * q + 1940) → k ≠ (56100 * q + 167).toNat → k ≠ (56100 * q + 166).toNat → I3 57 k = I 57 k := fun k a b c d => by
    rw [zDc_57 h3 b rfl, hk k c d, zDb_57 h a rfl]
  refine zFr_o hq (fun a k => ?_) (fun hr => ?_)
  · by_cases e : a = 57
    · subst e
      by_cases e2 : 56100 * q ≤ (k : Int) ∧ (k : Int) < 56100 * q + 56100
      · exact Or.inl ⟨rfl, e2⟩
      · by_cases e3 : k % 56100 < 144
        · exact Or.inr (Or.inl (zNr_n (Or.inl rfl) (by omega)))
        · exact Or.inr (Or.inr (hn k (by omega) (by omega) (by omega) (by omega)))
    · refine Or.inr (Or.inr ?_)
      rw [(h3.1 a k).resolve_left (by omega), hcc a e, (h a k).resolve_left (by omega)]
  · obtain ⟨h1, h2, h4⟩ := hr
    obtain ⟨g1, g2, g3, g4, g5, g6⟩ := h4 57 q.toNat (Or.inl rfl) (by omega)
    rw [show 56100 * q.toNat + 166 = (56100 * q + 166).toNat by omega, hF, show 56100 * q.toNat + 167 = (56100 * q + 167).toNat by omega, hd] at g4
    have i6 : I3 57 (56100 * q.toNat + 166) = F - 1 := by rw [show 56100 * q.toNat + 166 = (56100 * q + 166).toNat by omega, zDc_57 h3 (by omega) rfl, h6]
    have i7 : I3 57 (56100 * q.toNat + 167) = d - y := by rw [show 56100 * q.toNat + 167 = (56100 * q + 167).toNat by omega, zDc_57 h3 (by omega) rfl, h7]
    have i4 : I3 57 (56100 * q.toNat + 164) = I 57 (56100 * q.toNat + 164) := hn _ (by omega) (by omega) (by omega) (by omega)
    have i5 : I3 57 (56100 * q.toNat + 165) = I 57 (56100 * q.toNat + 165) := hn _ (by omega) (by omega) (by omega) (by omega)
    have hb : ∀ j : Nat, j < 40 → J 57 ((56100 * q + 1900).toNat + j) = I 57 ((56100 * q + 1900).toNat + j) := fun j hj => by
      rw [hk _ (by omega) (by omega), zDb_57 h (by omega) rfl]
    have s1 : zSum (I3 57) (56100 * q.toNat + 1901) 2 (F - 1).toNat = d - y := by
      rw [zSum_del (f := I 57) (k := c.toNat) (by omega) (fun j hj => ?_) (fun j a b => ?_)]
      · rw [show (F - 1).toNat + 1 = F.toNat by omega, ← g4, hy, show 56100 * q.toNat + 1901 + 2 * c.toNat = (56100 * q + 1901 + 2 * c).toNat by omega]
      · rw [show 56100 * q.toNat + 1901 + 2 * j = (56100 * q + 1900).toNat + (2 * j + 1) by omega, (h3.2 (2 * j + 1) (by omega)).2 (by omega), hb _ (by omega)]
      · rw [show 56100 * q.toNat + 1901 + 2 * j = (56100 * q + 1900).toNat + (2 * j + 1) by omega, (h3.2 (2 * j + 1) (by omega)).1 (by omega), hb _ (by omega), show 56100 * q.toNat + 1901 + 2 * (j + 1) = (56100 * q + 1900).toNat + (2 * j + 1 + 2) by omega]
    have s2 : zSum (I3 57) (56100 * q.toNat + 171) 17 (I 57 (56100 * q.toNat + 165)).toNat = zSum (I 57) (56100 * q.toNat + 171) 17 (I 57 (56100 * q.toNat + 165)).toNat := zSum_eq (fun j hj => hn _ (by omega) (by omega) (by omega) (by omega))
    unfold zRm
    rw [i4, i5, i6, i7, s1, s2]
    refine ⟨g1, g2, by omega, rfl, g5, fun l hl => ?_⟩
    rw [hn _ (by omega) (by omega) (by omega) (by omega), (h3.1 61 _).resolve_left (by omega), hcc 61 (by omega), (h 61 _).resolve_left (by omega)]
    exact g6 l hl
/-- a forme's lines are among the locked ones -/
theorem zDi_le {n sl : Nat} {T : Nat → zT} {I : Nat → Nat → Int} {P : Nat → Nat → Option Nat} {G : Nat → Nat → Int} (hT : ∀ a, 56 ≤ a → a ≤ 90 → T a = zFix a) (hw : zWf zMd (n, sl, T, I, P, G)) (hrl : zRl I) {q F c f y d : Int} (hq : 0 ≤ q ∧ q ≤ 1) (hF : I 57 (56100 * q + 166).toNat = F) (hd : I 57 (56100 * q + 167).toNat = d) (hc : 0 ≤ c ∧ c < F) (hf : f = zSum (I 57) (56100 * q + 1901).toNat 2 c.toNat) (hy : y = I 57 (56100 * q + 1901 + 2 * c).toNat) : F ≤ 12 ∧ f + y ≤ d ∧ d ≤ 720 := by
  obtain ⟨g1, g2, g3, g4, g5, g6⟩ := hrl.2.2 57 q.toNat (Or.inl rfl) (by omega)
  rw [show 56100 * q.toNat + 166 = (56100 * q + 166).toNat by omega, hF] at g3 g4
  rw [show 56100 * q.toNat + 167 = (56100 * q + 167).toNat by omega, hd, show 56100 * q.toNat + 1901 = (56100 * q + 1901).toNat by omega] at g4
  have hb : ∀ j, j < F.toNat → 0 ≤ I 57 ((56100 * q + 1901).toNat + 2 * j) := fun j hj => by
    have hk := hw.2.1 57 ((56100 * q + 1901).toNat + 2 * j)
    rw [show (n, sl, T, I, P, G).2.2.1 57 = T 57 from rfl, hT 57 (by decide) (by decide)] at hk
    exact (ok_fl hk (by omega)).1
  have h1 := zSum_le (m := c.toNat + 1) (k := F.toNat) (by omega) hb
  have h2 : zSum (I 57) (56100 * q + 1901).toNat 2 (c.toNat + 1) = f + y := by
    show zSum (I 57) (56100 * q + 1901).toNat 2 c.toNat + I 57 ((56100 * q + 1901).toNat + 2 * c.toNat) = f + y
    rw [← hf, hy, show (56100 * q + 1901).toNat + 2 * c.toNat = (56100 * q + 1901 + 2 * c).toNat by omega]
  have h3 := hw.2.1 57 (56100 * q + 167).toNat
  rw [show (n, sl, T, I, P, G).2.2.1 57 = T 57 from rfl, hT 57 (by decide) (by decide)] at h3
  have h3 : 0 ≤ I 57 (56100 * q + 167).toNat ∧ I 57 (56100 * q + 167).toNat ≤ 720 := ok_sets h3 (by omega)
  omega
/-- what lock begins with -/
theorem zLq_in {n sl : Nat} {T : Nat → zT} {I : Nat → Nat → Int} {P : Nat → Nat → Option Nat} {G : Nat → Nat → Int} (hT : ∀ a, 56 ≤ a → a ≤ 90 → T a = zFix a) (hw : zWf zMd (n, sl, T, I, P, G)) (hrl : zRl I) {q g F : Int} (hq : 0 ≤ q ∧ q ≤ 1) (hg : I 57 (56100 * q + 165).toNat = g) (hF : I 57 (56100 * q + 166).toNat = F) (hg1 : 1 ≤ g) : (0 ≤ I 57 (56100 * q + 164).toNat ∧ I 57 (56100 * q + 164).toNat ≤ 89) ∧ (0 ≤ I 57 (56100 * q + 167).toNat ∧ I 57 (56100 * q + 167).toNat ≤ 720) ∧ zSum (I 57) (56100 * q + 1901).toNat 2 F.toNat = I 57 (56100 * q + 167).toNat ∧ zSum (I 57) (56100 * q + 171).toNat 17 g.toNat = I 57 (56100 * q + 164).toNat := by
  obtain ⟨g1, g2, g3, g4, g5, g6⟩ := hrl.2.2 57 q.toNat (Or.inl rfl) (by omega)
  have e4 : 56100 * q.toNat + 164 = (56100 * q + 164).toNat := by omega
  have e5 : 56100 * q.toNat + 165 = (56100 * q + 165).toNat := by omega
  have e6 : 56100 * q.toNat + 166 = (56100 * q + 166).toNat := by omega
  have e7 : 56100 * q.toNat + 167 = (56100 * q + 167).toNat := by omega
  have e8 : 56100 * q.toNat + 1901 = (56100 * q + 1901).toNat := by omega
  have e9 : 56100 * q.toNat + 171 = (56100 * q + 171).toNat := by omega
  rw [e4] at g1
  rw [e6, e7, e8, hF] at g4
  rw [e4, e5, e9, hg] at g5
  have h3 := hw.2.1 57 (56100 * q + 167).toNat
  rw [show (n, sl, T, I, P, G).2.2.1 57 = T 57 from rfl, hT 57 (by decide) (by decide)] at h3
  exact ⟨g1, ok_sets h3 (by omega), g4.symm, g5.resolve_left (by omega)⟩
