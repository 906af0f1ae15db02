/-! keeping a floor -/
def zPf (z : Nat) (P P2 : Nat → Nat → Option Nat) : Prop := ∀ a k, (a < z + 2 ∨ z + 6 < a) → P2 a k = P a k
def zKq (z b : Nat) (I I2 : Nat → Nat → Int) (P P2 : Nat → Nat → Option Nat) : Prop := (∀ a k, a ≠ z → a ≠ z + 1 → ¬ (a = b ∧ k = 6) → I2 a k = I a k) ∧ zPf z P P2
theorem zKq_tr {z b : Nat} {I I2 I3 : Nat → Nat → Int} {P P2 P3 : Nat → Nat → Option Nat} (h : zKq z b I I2 P P2) (h2 : zKq z b I2 I3 P2 P3) : zKq z b I I3 P P3 :=
  ⟨fun a k h1 h3 h4 => by rw [h2.1 a k h1 h3 h4, h.1 a k h1 h3 h4], fun a k ha => by rw [h2.2 a k ha, h.2 a k ha]⟩
theorem zKq_rf {z b : Nat} {I : Nat → Nat → Int} {P : Nat → Nat → Option Nat} : zKq z b I I P P := ⟨fun _ _ _ _ _ => rfl, fun _ _ _ => rfl⟩
theorem zKq_I {z b k : Nat} {v : Int} {I I2 : Nat → Nat → Int} {P P2 : Nat → Nat → Option Nat} (h : zKq z b I I2 P P2) : zKq z b I (zU I2 z k v) P P2 := ⟨fun a j h1 h2 h3 => by rw [zU_row _ _ _ h1]; exact h.1 a j h1 h2 h3, h.2⟩
theorem zKq_P {z b a k : Nat} {p : Option Nat} {I I2 : Nat → Nat → Int} {P P2 : Nat → Nat → Option Nat} (h : zKq z b I I2 P P2) (ha : z + 2 ≤ a ∧ a ≤ z + 6) : zKq z b I I2 P (zU P2 a k p) := ⟨h.1, fun c j hc => by rw [zU_row _ _ _ (by omega)]; exact h.2 c j hc⟩
theorem zFlr_k {T : Nat → zT} {x z b : Nat} {I I2 : Nat → Nat → Int} {P P2 : Nat → Nat → Option Nat} (h : zFlr T I P x) (ix : x = 23 ∨ x = 30 ∨ x = 42 ∨ x = 49) (iz : z = 23 ∨ z = 30 ∨ z = 42 ∨ z = 49) (hb : b = 0 ∨ b = 18 ∨ b = 37) (hne : x ≠ z) (hk : zKq z b I I2 P P2) : zFlr T I2 P2 x :=
  zFlr_eq h (fun _ _ h _ => h) (hk.1 x 6 (by omega) (by omega) (by omega)) (hk.1 x 8 (by omega) (by omega) (by omega)) (hk.1 x 10 (by omega) (by omega) (by omega)) (fun k => ⟨hk.2 _ k (by omega), hk.2 _ k (by omega), hk.2 _ k (by omega)⟩)
/-- the first l of a row are copied -/
def zCpP (A B : Nat) (l : Int) (P P2 : Nat → Nat → Option Nat) : Prop := (∀ a k, a ≠ B → P2 a k = P a k) ∧ ∀ j : Nat, (j : Int) < l → P2 B j = P A j
theorem zCpP_0 {A B : Nat} {P : Nat → Nat → Option Nat} : zCpP A B 0 P P := ⟨fun _ _ _ => rfl, fun j hj => by omega⟩
theorem zCpP_s {A B : Nat} {l : Int} {v : Option Nat} {P P2 : Nat → Nat → Option Nat} (h : zCpP A B l P P2) (hAB : A ≠ B) (h0 : 0 ≤ l) (hv : v = P2 A l.toNat) : zCpP A B (l + 1) P (zU P2 B l.toNat v) := by
  refine ⟨fun a k ha => by rw [zU_row _ _ _ ha]; exact h.1 a k ha, fun j hj => ?_⟩
  by_cases e : j = l.toNat
  · subst e; rw [zU_same, hv, h.1 _ _ hAB]
  · rw [zU_at _ _ _ e]; exact h.2 j (by omega)
theorem zKq_c {z b A B : Nat} {l : Int} {I : Nat → Nat → Int} {P P2 : Nat → Nat → Option Nat} (h : zCpP A B l P P2) (hB : z + 2 ≤ B ∧ B ≤ z + 6) : zKq z b I I P P2 := ⟨fun _ _ _ _ _ => rfl, fun a k ha => h.1 a k (by omega)⟩
/-- what copyGalley does -/
def zGal (x z : Nat) (I I2 : Nat → Nat → Int) (P P2 : Nat → Nat → Option Nat) : Prop :=
  (∀ a k, ¬ (a = z ∧ (k = 6 ∨ k = 8)) → I2 a k = I a k) ∧ (∀ a k, a ≠ z + 4 → a ≠ z + 5 → P2 a k = P a k) ∧ I2 z 6 = I x 6 ∧ I2 z 8 = I x 8 ∧ (∀ j : Nat, (j : Int) < I x 6 → P2 (z + 4) j = P (x + 4) j) ∧ (∀ j : Nat, (j : Int) < I x 8 → P2 (z + 5) j = P (x + 5) j)
theorem zGal_in {x z : Nat} {u w : Int} {I : Nat → Nat → Int} {P P2 P3 : Nat → Nat → Option Nat} (hu : I x 6 = u) (hw : I x 8 = w) (hne : x ≠ z) (ix : x = 23 ∨ x = 30 ∨ x = 42 ∨ x = 49) (iz : z = 23 ∨ z = 30 ∨ z = 42 ∨ z = 49) (h1 : zCpP (x + 4) (z + 4) u P P2) (h2 : zCpP (x + 5) (z + 5) w P2 P3) : zGal x z I (zU (zU I z 6 u) z 8 w) P P3 := by
  refine ⟨fun a k ha => ?_, fun a k h4 h5 => by rw [h2.1 a k h5, h1.1 a k h4], ?_, ?_, fun j hj => ?_, fun j hj => ?_⟩
  · have e1 : ¬ (a = z ∧ k = 8) := by omega
    have e2 : ¬ (a = z ∧ k = 6) := by omega
    simp [zU, e1, e2]
  · simp [zU, hu]
  · simp [zU, hw]
  · rw [h2.1 _ _ (by omega)]; exact h1.2 j (by omega)
  · rw [h2.2 j (by omega), h1.1 _ _ (by omega)]
theorem zKq_g {x z b : Nat} {I I2 : Nat → Nat → Int} {P P2 : Nat → Nat → Option Nat} (h : zGal x z I I2 P P2) : zKq z b I I2 P P2 := ⟨fun a k h1 _ _ => h.1 a k (by omega), fun a k ha => h.2.1 a k (by omega) (by omega)⟩
theorem zFlr_new {T : Nat → zT} {x z : Nat} {w : Int} {I I2 : Nat → Nat → Int} {P P2 P3 : Nat → Nat → Option Nat} (h : zFlr T I P x) (ix : x = 23 ∨ x = 30 ∨ x = 42 ∨ x = 49) (iz : z = 23 ∨ z = 30 ∨ z = 42 ∨ z = 49) (hne : x ≠ z) (hg : zGal x z I I2 P P2) (hw : I2 x 10 = w) (hc : zCpP (x + 6) (z + 6) w P2 P3) : zFlr T (zU I2 z 10 w) P3 z := by
  obtain ⟨g1, g2, g3⟩ := h
  obtain ⟨k1, k2, k3, k4, k5, k6⟩ := hg
  have e10 : I x 10 = w := by rw [← hw, k1 x 10 (by omega)]
  refine ⟨fun j hj => ?_, fun j hj => ?_, fun j hj => ?_⟩
  · rw [zU_at _ _ _ (by omega), k3] at hj
    rw [hc.1 _ _ (by omega), k5 j hj]; exact g1 j hj
  · rw [zU_at _ _ _ (by omega), k4] at hj
    rw [hc.1 _ _ (by omega), k6 j hj, zU_at _ _ _ (by omega), k3]; exact g2 j hj
  · rw [zU_same] at hj
    rw [hc.2 j hj, k2 _ _ (by omega) (by omega)]; exact g3 j (by omega)
theorem zCR_z {T : Nat → zT} {I : Nat → Nat → Int} {P : Nat → Nat → Option Nat} (h : zCR T I P) {b x : Nat} (hb : b = 18 ∨ b = 37) (hx : P b 4 = some x) : ∃ z, P b 5 = some z ∧ ((x = b + 5 ∧ z = b + 12) ∨ (x = b + 12 ∧ z = b + 5)) := by
  rcases h.2.1 b hb with ⟨h1, h2⟩ | ⟨h1, h2⟩
  · exact ⟨_, h2, Or.inl ⟨Option.some.inj (hx.symm.trans h1), rfl⟩⟩
  · exact ⟨_, h2, Or.inr ⟨Option.some.inj (hx.symm.trans h1), rfl⟩⟩
theorem zCP_keep {n : Nat} {T : Nat → zT} {I I2 : Nat → Nat → Int} {P P2 : Nat → Nat → Option Nat} {z b : Nat} (iz : z = 23 ∨ z = 30 ∨ z = 42 ∨ z = 49) (hb : b = 18 ∨ b = 37) (hk : zKq z b I I2 P P2) (hf : zFlr T I2 P2 z) : zCP n T T I I2 P P2 := by
  refine ⟨fun _ _ => rfl, fun hr => ?_, fun a k ha => hk.1 a k (by omega) (by omega) (by omega)⟩
  obtain ⟨g1, g2, g3⟩ := hr
  refine ⟨?_, fun c hc => ?_, fun x hx => ?_⟩
  · rw [hk.2 1 5 (by omega), hk.1 1 6 (by omega) (by omega) (by omega)]; exact g1
  · rw [hk.2 c 4 (by omega), hk.2 c 5 (by omega)]; exact g2 c hc
  · by_cases e : x = z
    · subst e; exact hf
    · exact zFlr_k (g3 x hx) hx iz (by omega) e hk
theorem zCR_st {T : Nat → zT} {I : Nat → Nat → Int} {P : Nat → Nat → Option Nat} {v : Int} (h : zCR T I P) : zCR T (zU I 1 9 v) P :=
  (zCP_q (n := 0) ⟨zTn_rf, zQi_u zQi_rf (by unfold zIr; omega), zQp_rf⟩ (zTm_rf _)).2.1 h
theorem zNote_b {T : Nat → zT} {I : Nat → Nat → Int} {P : Nat → Nat → Option Nat} {b : Nat} (h : zCR T I P) (hb : some b = P 1 5) : b = 18 + 19 * (I 1 6).toNat := Option.some.inj (hb.trans h.1)
/-- what the class has of the trace -/
def zTr (I I2 : Nat → Nat → Int) : Prop := ∀ a k, ¬ (a = 3 ∧ k = 1) → a ≠ 4 → I2 a k = I a k
theorem zTr_rf {I : Nat → Nat → Int} : zTr I I := fun _ _ _ _ => rfl
theorem zTr_tr {I I2 I3 : Nat → Nat → Int} (h : zTr I I2) (h2 : zTr I2 I3) : zTr I I3 := fun a k h1 h3 => by rw [h2 a k h1 h3, h a k h1 h3]
theorem zTr_1 {I I2 : Nat → Nat → Int} {v : Int} (h : zTr I I2) : zTr I (zU I2 3 1 v) := fun a k h1 h3 => by
  rw [← h a k h1 h3]; simp [zU, h1]
theorem zTr_4 {I I2 : Nat → Nat → Int} {k : Nat} {v : Int} (h : zTr I I2) : zTr I (zU I2 4 k v) := fun a j h1 h3 => by
  rw [zU_row _ _ _ h3]; exact h a j h1 h3
theorem zQi_tr {I I2 : Nat → Nat → Int} (h : zTr I I2) : zQi I I2 := fun a k hk => h a k (by unfold zIr at hk; omega) (by unfold zIr at hk; omega)
theorem zU_r1 {I : Nat → Nat → Int} {a b k j : Nat} {v : Int} (h : b ≠ a) : zU I a k v b j = I b j := by rw [zU_row _ _ _ h]
theorem zNote_1 {I : Nat → Nat → Int} {b : Nat} {h a c v w : Int} (hb : b = 18 + 19 * h.toNat) (hv : v = I (b + 4) a.toNat) : v = I (22 + 19 * h.toNat) a.toNat ∧ ∀ k, zU (zU I (b + 4) a.toNat c) 1 9 w (22 + 19 * h.toNat) k = if k = a.toNat then c else I (22 + 19 * h.toNat) k := by
  have e : b + 4 = 22 + 19 * h.toNat := by omega
  rw [e] at hv ⊢
  refine ⟨hv, fun k => ?_⟩
  rw [zU_row _ _ _ (by omega)]
  by_cases e2 : k = a.toNat
  · subst e2; rw [zU_same, if_pos rfl]
  · rw [zU_at _ _ _ e2, if_neg e2]
theorem zNote_2 {I : Nat → Nat → Int} {b x k j : Nat} {h c w : Int} (hb : b = 18 + 19 * h.toNat) (h1 : x ≠ 22 + 19 * h.toNat) (h2 : ¬ (x = 1 ∧ k = 9)) : zU (zU I (b + 4) j c) 1 9 w x k = I x k := by
  have e : ¬ (x = b + 4 ∧ k = j) := by omega
  simp [zU, h2, e]
theorem zX_wf2 {M : zM} {L : Nat} {xs : Nat → Int32} {y : Nat} {as : List zV} {h : zH} {K : List zV → zH → Prop} (hb : zWf M h → zX M L xs y as h K) : zX M L xs y as h K := fun σ hσ => hb hσ.2.2.2 σ hσ
theorem zX_le {L : Nat} {xs : Nat → Int32} {y : Nat} {as : List zV} {n sl : Nat} {T : Nat → zT} {I : Nat → Nat → Int} {P : Nat → Nat → Option Nat} {G : Nat → Nat → Int} {K : List zV → zH → Prop} {a : Nat} {t : zT} (ht : T a = t) (hc : zCl t) (hb : a ≤ n → zX zMd L xs y as (n, sl, T, I, P, G) K) : zX zMd L xs y as (n, sl, T, I, P, G) K := by
  intro σ hσ
  exact hb (zA_le hσ (a := a) (by show zCl (T a); rw [ht]; exact hc)) σ hσ
theorem zKq_b {z b : Nat} {v : Int} {I I2 : Nat → Nat → Int} {P P2 : Nat → Nat → Option Nat} (hb : b = 18 ∨ b = 37) (h : zKq z 0 I I2 P P2) : ∀ a k, a ≠ 0 → a ≠ z → a ≠ z + 1 → ¬ (a = b ∧ k = 6) → zU I2 b 6 v a k = I a k := fun a k h0 h1 h2 h3 => by
  rw [← h.1 a k h1 h2 (by omega)]; simp [zU, h3]
/-- what keeping leaves as it was -/
def zKr (z b : Nat) (I I2 : Nat → Nat → Int) (P P2 : Nat → Nat → Option Nat) : Prop := (∀ a k, a ≠ 0 → a ≠ z → a ≠ z + 1 → ¬ (a = b ∧ k = 6) → I2 a k = I a k) ∧ zPf z P P2
theorem zFlr_b {T : Nat → zT} {I : Nat → Nat → Int} {P : Nat → Nat → Option Nat} {z b : Nat} {v : Int} (h : zFlr T I P z) (hne : z ≠ b) : zFlr T (zU I b 6 v) P z :=
  zFlr_eq h (fun _ _ h _ => h) (by rw [zU_row _ _ _ hne]) (by rw [zU_row _ _ _ hne]) (by rw [zU_row _ _ _ hne]) (fun k => ⟨rfl, rfl, rfl⟩)
theorem zFlr_k2 {T : Nat → zT} {x z b : Nat} {I I2 : Nat → Nat → Int} {P P2 : Nat → Nat → Option Nat} (h : zFlr T I P x) (ix : x = 23 ∨ x = 30 ∨ x = 42 ∨ x = 49) (iz : z = 23 ∨ z = 30 ∨ z = 42 ∨ z = 49) (hb : b = 18 ∨ b = 37) (hne : x ≠ z) (hk : zKr z b I I2 P P2) : zFlr T I2 P2 x :=
  zFlr_eq h (fun _ _ h _ => h) (hk.1 x 6 (by omega) (by omega) (by omega) (by omega)) (hk.1 x 8 (by omega) (by omega) (by omega) (by omega)) (hk.1 x 10 (by omega) (by omega) (by omega) (by omega)) (fun k => ⟨hk.2 _ k (by omega), hk.2 _ k (by omega), hk.2 _ k (by omega)⟩)
theorem zCP_keep2 {n : Nat} {T : Nat → zT} {I I2 : Nat → Nat → Int} {P P2 : Nat → Nat → Option Nat} {z b : Nat} (iz : z = 23 ∨ z = 30 ∨ z = 42 ∨ z = 49) (hb : b = 18 ∨ b = 37) (hk : zKr z b I I2 P P2) (hf : zFlr T I2 P2 z) : zCP n T T I I2 P P2 := by
  refine ⟨fun _ _ => rfl, fun hr => ?_, fun a k ha => hk.1 a k (by omega) (by omega) (by omega) (by omega)⟩
  obtain ⟨g1, g2, g3⟩ := hr
  refine ⟨?_, fun c hc => ?_, fun x hx => ?_⟩
  · rw [hk.2 1 5 (by omega), hk.1 1 6 (by omega) (by omega) (by omega) (by omega)]; exact g1
  · rw [hk.2 c 4 (by omega), hk.2 c 5 (by omega)]; exact g2 c hc
  · by_cases e : x = z
    · subst e; exact hf
    · exact zFlr_k2 (g3 x hx) hx iz hb e hk
