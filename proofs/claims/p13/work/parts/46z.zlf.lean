/-! lines that are measured: what changes -/
theorem zNd_put2 {I : Nat → Nat → Int} {p N : Int} (hn : zNd I) (hk : I 56 33 = N) (h0 : 0 ≤ N) (hno : ∀ j : Nat, (j : Int) < I 56 33 → I 83 j ≠ p) : zNd (zU (zU I 83 N.toNat p) 56 33 (N + 1)) := by
  have := zNd_put (k := N.toNat) hn (by omega) hno
  rw [show ((N.toNat : Int) + 1) = N + 1 by omega] at this
  exact this
/-- of a line's measuring: its fields and rows alone have changed -/
def zLf (I I2 : Nat → Nat → Int) : Prop := ∀ a k, (a = 82 ∨ a = 83 ∨ (a = 56 ∧ 31 ≤ k ∧ k ≤ 38)) ∨ I2 a k = I a k
theorem zLf_rf (I : Nat → Nat → Int) : zLf I I := fun _ _ => Or.inr rfl
theorem zLf_u {I I2 : Nat → Nat → Int} {a k : Nat} {v : Int} (h : zLf I I2) (ha : a = 82 ∨ a = 83 ∨ (a = 56 ∧ 31 ≤ k ∧ k ≤ 38)) : zLf I (zU I2 a k v) := by
  intro b j
  by_cases e : b = a ∧ j = k
  · obtain ⟨rfl, rfl⟩ := e; exact Or.inl ha
  · rcases h b j with e2 | e2
    · exact Or.inl e2
    · refine Or.inr ?_
      rw [← e2]
      simp [zU, e]
theorem zLf_a {I I2 : Nat → Nat → Int} {a k : Nat} {v : Int} (h : zLf I I2) (ha : a = 82 ∨ a = 83) : zLf I (zU I2 a k v) := zLf_u h (by omega)
theorem zLf_f {I I2 : Nat → Nat → Int} {k : Nat} {v : Int} (h : zLf I I2) (ha : 31 ≤ k ∧ k ≤ 38) : zLf I (zU I2 56 k v) := zLf_u h (by omega)
theorem zLf_tr {I I2 I3 : Nat → Nat → Int} (h : zLf I I2) (h2 : zLf I2 I3) : zLf I I3 := by
  intro a k
  rcases h2 a k with e | e
  · exact Or.inl e
  · rcases h a k with e2 | e2
    · exact Or.inl e2
    · exact Or.inr (e.trans e2)
theorem zFr_l {I I2 : Nat → Nat → Int} (h : zLf I I2) : zFr I I2 := zFr_q (fun a k => by
  rcases h a k with e | e
  · refine Or.inl ?_
    rcases e with rfl | rfl | ⟨rfl, e1, e2⟩
    · exact zNr_a (by decide)
    · exact zNr_a (by decide)
    · exact zNr_f (by omega)
  · exact Or.inr e)
theorem zLo_tok {I I2 : Nat → Nat → Int} {k : Nat} {v w : Int} (h : zLf I I2) (hr : zRl I) (hv : v = I2 80 k) (hw : w = I2 81 k) (h7 : v = 7) : 0 ≤ w ∧ w ≤ 11 := by
  have e1 : I2 80 k = I 80 k := (h 80 k).resolve_left (by omega)
  have e2 : I2 81 k = I 81 k := (h 81 k).resolve_left (by omega)
  have := hr.1 k (by omega)
  omega
theorem zX_wf {M : zM} {L : Nat} {xs : Nat → Int32} {y : Nat} {as : List zV} {h : zH} {K : List zV → zH → Prop} (hb : zWf M h → zX M L xs y as h K) : zX M L xs y as h K := fun σ hσ => hb hσ.2.2.2 σ hσ
