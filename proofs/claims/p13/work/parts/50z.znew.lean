/-! numbers that may wrap around -/
theorem z_wrapR (v : Int) : zR (Int32.ofInt v).toInt := ⟨Int32.le_toInt _, Int.le_of_lt_add_one (Int32.toInt_lt _)⟩
theorem z_wrapM (v : Int) : (Int32.ofInt v).toInt % 4294967296 = v % 4294967296 := by
  rw [Int32.toInt_ofInt]
  show (v.bmod 4294967296) % 4294967296 = _
  unfold Int.bmod
  show (if v % 4294967296 < (4294967296 + 1) / 2 then v % 4294967296 else v % 4294967296 - 4294967296) % 4294967296 = _
  split <;> omega
section ZN
variable {M : zM} {L : Nat} {xs : Nat → Int32} {y pc pc2 n sl a : Nat} {lv lv2 : List (Nat × zV)} {r : List zV} {h : zH} {K : List zV → zH → Prop} {T : Nat → zT} {I : Nat → Nat → Int} {P : Nat → Nat → Option Nat} {G : Nat → Nat → Int} {gs : List Int}
theorem z_imulN {x z : Int} (hc : mpCode pg y pc = some .imul) (hp : pc + 1 = pc2) (hb : ∀ q, zR q → (z = 0 → q = 0) → zB M L xs y pc2 lv (.inl q :: r) h K) : zB M L xs y pc lv (.inl z :: .inl x :: r) h K := by
  refine z_imul hc hp ?_
  have e := hb (Int32.ofInt (x * z)).toInt (z_wrapR _) (fun e => by rw [e, Int.mul_zero]; rfl)
  intro σ hσ
  have := e σ hσ
  simpa only [List.map_cons, zC, Int32.ofInt_toInt] using this
theorem z_istoreN {k : Nat} {e : Int} (hc : mpCode pg y pc = some (.istore k)) (hp : pc + 2 = pc2) (hlt : Nat.blt k (mpInfo pg y).1 = true) (hb : ∀ u, zR u → zB M L xs y pc2 ((k, .inl u) :: zDel lv k) r h K) : zB M L xs y pc lv (.inl e :: r) h K := by
  have e1 := z_istore (M := M) (L := L) (xs := xs) (lv := lv) (r := r) (h := h) (K := K) (e := (Int32.ofInt e).toInt) hc hp hlt rfl (hb _ (z_wrapR _))
  intro σ hσ
  have := e1 σ hσ
  simpa only [List.map_cons, zC, Int32.ofInt_toInt] using this
theorem z_iast_w {i len v : Int} (hc : mpCode pg y pc = some .iastore) (hp : pc + 1 = pc2) (hT : T a = (2, 0, len :: gs)) (h0 : 0 ≤ i) (h1 : i < len) (hl : len ≤ 2147483647) (hv : ∀ u, zR u → u % 4294967296 = v % 4294967296 → M.1 (2, 0, len :: gs) i.toNat u) (hb : ∀ u, zR u → zB M L xs y pc2 lv r (n, sl, T, zU I a i.toNat u, P, G) K) : zB M L xs y pc lv (.inl v :: .inl i :: .inr (.inl (some a)) :: r) (n, sl, T, I, P, G) K := by
  have e := z_iast (M := M) (L := L) (xs := xs) (lv := lv) (r := r) (n := n) (sl := sl) (P := P) (G := G) (I := I) (K := K) (v := (Int32.ofInt v).toInt) hc hp hT h0 h1 hl (z_wrapR v) (hv _ (z_wrapR v) (z_wrapM v)) (hb _ (z_wrapR v))
  intro σ hσ
  have := e σ hσ
  simpa only [List.map_cons, zC, Int32.ofInt_toInt] using this
end ZN
theorem zGd_mod {s u : Int} (h : zGd s) (hu : u % 524288 = s % 524288) : zGd u := by
  unfold zGd at h ⊢
  have e1 : u / 8 % 256 = s / 8 % 256 := by omega
  have e2 : u / 2048 % 256 = s / 2048 % 256 := by omega
  have e3 : u % 8 = s % 8 := by omega
  rw [e1, e2, e3]
  exact h
/-- of a line's justifying: its sorts, its width, the faults alone have changed -/
def zJu (I I2 : Nat → Nat → Int) : Prop := ∀ a k, (a = 82 ∨ (a = 56 ∧ (k = 35 ∨ k = 5))) ∨ I2 a k = I a k
theorem zJu_rf (I : Nat → Nat → Int) : zJu I I := fun _ _ => Or.inr rfl
theorem zJu_u {I I2 : Nat → Nat → Int} {a k : Nat} {v : Int} (h : zJu I I2) (ha : a = 82 ∨ (a = 56 ∧ (k = 35 ∨ k = 5))) : zJu I (zU I2 a k v) := by
  intro b j
  by_cases e : b = a ∧ j = k
  · obtain ⟨rfl, rfl⟩ := e; exact Or.inl ha
  · rcases h b j with e2 | e2
    · exact Or.inl e2
    · refine Or.inr ?_
      rw [← e2]
      simp [zU, e]
theorem zJu_a {I I2 : Nat → Nat → Int} {k : Nat} {v : Int} (h : zJu I I2) : zJu I (zU I2 82 k v) := zJu_u h (Or.inl rfl)
theorem zJu_f {I I2 : Nat → Nat → Int} {k : Nat} {v : Int} (h : zJu I I2) (hk : k = 35 ∨ k = 5) : zJu I (zU I2 56 k v) := zJu_u h (Or.inr ⟨rfl, hk⟩)
theorem zJu_k {I I2 : Nat → Nat → Int} {k : Nat} {v : Int} (h : zJu I I2) (hk : k ≠ 35 ∧ k ≠ 5) (hv : I 56 k = v) : I2 56 k = v := by
  rw [(h 56 k).resolve_left (by omega)]; exact hv
