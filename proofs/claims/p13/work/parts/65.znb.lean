/-! the constructors: cells are made, all told plainly -/
section ZNB
variable {L : Nat} {xs : Nat → Int32} {y pc pc2 : Nat} {lv : List (Nat × zV)} {r : List zV} {n sl : Nat} {T : Nat → zT} {I : Nat → Nat → Int} {P : Nat → Nat → Option Nat} {G : Nat → Nat → Int} {K : List zV → zH → Prop}
theorem z_newE {i c s a s2 : Nat} (ha : n + 1 = a) (hs2 : sl + s = s2) (hc : mpCode pg y pc = some (.new i)) (hp : pc + 3 = pc2) (hn : mpNew pg y i = some (c, zFs (zK c) (fun _ => 0) (fun _ => none) (fun _ => 0))) (hs : (zK c).length = s) (hzk : ∀ k, zok (1, c, []) k 0)
    (hb : zB zMd L xs y pc2 lv (.inr (.inl (some a)) :: r) (a, s2, zUT T a (1, c, []), zRow I a (fun _ => 0), zRow P a (fun _ => none), zRow G a (fun _ => 0)) K) : zB zMd L xs y pc lv r (n, sl, T, I, P, G) K := by
  subst hp; subst ha; subst hs2
  refine z_hp (st2 := .inr (.inl (some (n + 1))) :: r) hc (fun _ _ => rfl) (fun σ' hσ' => ⟨σ' ++ [.inr (c, zFs (zK c) (fun _ => 0) (fun _ => none) (fun _ => 0))], ?_, (zA_push hσ' rfl (by rw [← hs]; exact zK_len _ _ _ _) hzk (fun T' k => zop_raw T' c k)).1⟩) hb
  have hl : σ'.length = n := hσ'.1
  simp only [mHeap, mHeapC, hn, Option.map_some, List.map_cons, zC, va_rf, hl]
theorem z_pop2 {v : zV} {h : zH} (hc : mpCode pg y pc = some .pop2) (hp : pc + 1 = pc2) (hv : Nat.beq (zCat v) 2 = true) (hb : zB zMd L xs y pc2 lv r h K) : zB zMd L xs y pc lv (v :: r) h K := by
  subst hp
  have hv := Nat.eq_of_beq_eq_true hv
  exact z_loc hc (by simp only [mLocal, mLocalC, List.map_cons, zC_cat, hv, if_true]) hb
theorem zop_ints (T' : Nat → zT) (len : Int) (gs : List Int) (k : Nat) : zop T' (2, 0, len :: gs) k none := by
  unfold zop
  split
  · next e => cases e
  · next e => cases e
  · next e => cases e; trivial
  · trivial
theorem z_newIE {a s2 : Nat} {len : Int} {gs : List Int} (ha : n + 1 = a) (hs2 : sl + len.toNat = s2) (hc : mpCode pg y pc = some (.newarray .int)) (hp : pc + 2 = pc2) (h0 : 0 ≤ len) (h1 : len ≤ 1000000) (hz : ∀ k, zok (2, 0, len :: gs) k 0)
    (hb : zB zMd L xs y pc2 lv (.inr (.inl (some a)) :: r) (a, s2, zUT T a (2, 0, len :: gs), zRow I a (fun _ => 0), zRow P a (fun _ => none), zRow G a (fun _ => 0)) K) : zB zMd L xs y pc lv (.inl len :: r) (n, sl, T, I, P, G) K := by
  subst hp; subst ha; subst hs2
  refine z_hp (st2 := .inr (.inl (some (n + 1))) :: r) hc (fun _ _ => rfl) (fun σ' hσ' => ⟨σ' ++ [.inl (0, len.toNat, mBlank 0)], ?_, (zA_push hσ' (zCell_int _ _) rfl hz (fun T' k => zop_ints T' len gs k)).1⟩) hb
  have hl : σ'.length = n := hσ'.1
  have hix := z_ix (e := len) (by omega)
  simp only [mHeap, mHeapC, mI1, mATy, mNewA, Option.bind_some, List.map_cons, zC, va_rf, hl, if_neg (z_nn (e := len) (by omega) h0), hix, if_pos (show len.toNat ≤ 1000000 by omega)]
theorem z_newTE {t a s2 : Nat} {at_ : Jvm.ClassFile.ArrayType} {len : Int} {gs : List Int} (ha : n + 1 = a) (hs2 : sl + len.toNat = s2) (hc : mpCode pg y pc = some (.newarray at_)) (hp : pc + 2 = pc2) (ht : mATy at_ = some t) (ht2 : t = 1 ∨ t = 2) (h0 : 0 ≤ len) (h1 : len ≤ 1000000)
    (hb : zB zMd L xs y pc2 lv (.inr (.inl (some a)) :: r) (a, s2, zUT T a (2, t, len :: gs), zRow I a (fun _ => 0), zRow P a (fun _ => none), zRow G a (fun _ => 0)) K) : zB zMd L xs y pc lv (.inl len :: r) (n, sl, T, I, P, G) K := by
  subst hp; subst ha; subst hs2
  have hcell : zCell (2, t, len :: gs) (fun _ => 0) (fun _ => none) (fun _ => 0) = some (.inl (t, len.toNat, mBlank t)) := by
    rcases ht2 with rfl | rfl
    · simp [zCell, zAr, mBlank]
    · simp [zCell, zAr, mBlank]
  have hzk : ∀ k, zok (2, t, len :: gs) k 0 := fun k => by
    unfold zok
    split
    · next e => cases e
    · next e => cases e
    · next e => cases e; omega
    · trivial
  have hzp : ∀ (T' : Nat → zT) (k : Nat), zop T' (2, t, len :: gs) k none := fun T' k => by
    unfold zop
    split
    · next e => cases e
    · next e => cases e
    · next e =>
      cases e
      rcases ht2 with rfl | rfl <;> trivial
    · trivial
  refine z_hp (st2 := .inr (.inl (some (n + 1))) :: r) hc (fun _ _ => rfl) (fun σ' hσ' => ⟨σ' ++ [.inl (t, len.toNat, mBlank t)], ?_, (zA_push hσ' hcell rfl hzk hzp).1⟩) hb
  have hl : σ'.length = n := hσ'.1
  have hix := z_ix (e := len) (by omega)
  simp only [mHeap, mHeapC, mI1, ht, mNewA, Option.bind_some, List.map_cons, zC, va_rf, hl, if_neg (z_nn (e := len) (by omega) h0), hix, if_pos (show len.toNat ≤ 1000000 by omega)]
theorem z_newRE {i t a s2 : Nat} {len : Int} {gs : List Int} (ha : n + 1 = a) (hs2 : sl + len.toNat = s2) (hc : mpCode pg y pc = some (.anewarray i)) (hp : pc + 3 = pc2) (ht : mpArr pg y i = some t) (h3 : Nat.ble 3 t = true) (h0 : 0 ≤ len) (h1 : len ≤ 1000000) (hz : ∀ (T' : Nat → zT) (k : Nat), zop T' (2, t, len :: gs) k none)
    (hb : zB zMd L xs y pc2 lv (.inr (.inl (some a)) :: r) (a, s2, zUT T a (2, t, len :: gs), zRow I a (fun _ => 0), zRow P a (fun _ => none), zRow G a (fun _ => 0)) K) : zB zMd L xs y pc lv (.inl len :: r) (n, sl, T, I, P, G) K := by
  subst hp; subst ha; subst hs2
  have h3 : 3 ≤ t := Nat.le_of_ble_eq_true h3
  have hzk : ∀ k, zok (2, t, len :: gs) k 0 := fun k => by
    unfold zok
    split
    · next e => cases e
    · next e => cases e
    · next e => cases e; omega
    · trivial
  refine z_hp (st2 := .inr (.inl (some (n + 1))) :: r) hc (fun _ _ => rfl) (fun σ' hσ' => ⟨σ' ++ [.inl (t, len.toNat, mBlank t)], ?_, (zA_push hσ' (zCell_ref h3 _ _) rfl hzk hz).1⟩) hb
  have hl : σ'.length = n := hσ'.1
  have hix := z_ix (e := len) (by omega)
  simp only [mHeap, mHeapC, mI1, ht, mNewA, Option.bind_some, List.map_cons, zC, va_rf, hl, if_pos h3, if_neg (z_nn (e := len) (by omega) h0), hix, if_pos (show len.toNat ≤ 1000000 by omega)]
theorem zB_rtOE {c : Nat} {g : Int} {gs : List Int} {st : List zV} (a : Nat) (h0 : T a = (1, c, [])) (h1 : ∀ k, zok (1, c, g :: gs) k (I a k)) (h2 : ∀ k, zop T (1, c, g :: gs) k (P a k))
    (hb : zB zMd L xs y pc lv st (n, sl, zUT T a (1, c, g :: gs), I, P, G) K) : zB zMd L xs y pc lv st (n, sl, T, I, P, G) K := by
  intro σ hσ
  exact hb σ (zA_rt hσ h0 (fun h => h) trivial (t := (1, c, g :: gs)) (fun f p g => rfl) h1 h2).1
theorem zB_rtRE {ty : Nat} {len g : Int} {gs : List Int} {st : List zV} (a : Nat) (h0 : T a = (2, ty, [len])) (h1 : ∀ k, zok (2, ty, len :: g :: gs) k (I a k)) (h2 : ∀ k, zop T (2, ty, len :: g :: gs) k (P a k))
    (hb : zB zMd L xs y pc lv st (n, sl, zUT T a (2, ty, len :: g :: gs), I, P, G) K) : zB zMd L xs y pc lv st (n, sl, T, I, P, G) K := by
  intro σ hσ
  exact hb σ (zA_rt hσ h0 (fun h => h) trivial (t := (2, ty, len :: g :: gs)) (fun f p g => rfl) h1 h2).1
theorem zHe {b c t : Nat} {gs : List Int} (h : T b = (1, c, gs)) (he : ∀ f, mpElem pg t (.inr (c, f)) = true) : ∀ b', some b = some b' → ∃ e, zCell (T b') (I b') (P b') (G b') = some e ∧ mpElem pg t e = true := by
  intro b' hb; cases hb; rw [h]; exact ⟨_, rfl, he _⟩
end ZNB
def zAll (n : Nat) (Q : Nat → Prop) : Prop := match n with
  | 0 => True
  | n + 1 => zAll n Q ∧ Q n
theorem zAll_ok {Q : Nat → Prop} : ∀ {n : Nat}, zAll n Q → ∀ a, a < n → Q a
  | 0, _, a, h => by omega
  | n + 1, h, a, ha => by
    by_cases e : a = n
    · subst e; exact h.2
    · exact zAll_ok h.1 a (by omega)
theorem zAll_0 {Q : Nat → Prop} : zAll 0 Q := True.intro
theorem zAll_s {Q : Nat → Prop} {n : Nat} (h : zAll n Q) (h2 : Q n) : zAll (n + 1) Q := ⟨h, h2⟩
theorem zAll_m {Q : Nat → Prop} {m n e : Nat} (hm : m + n = e + 1) (h : zAll n (fun b => Q (m + b))) : ∀ a, m ≤ a → a ≤ e → Q a := by
  intro a h1 h2
  obtain ⟨b, rfl⟩ : ∃ b, a = m + b := ⟨a - m, by omega⟩
  exact zAll_ok h b (by omega)
theorem zUT_ne {T : Nat → zT} {a b : Nat} {t : zT} (h : b ≠ a) : zUT T a t b = T b := by simp [zUT, h]
theorem zU_nk {α : Type} {I : Nat → Nat → α} {a k b j : Nat} {v : α} (h : j ≠ k) : zU I a k v b j = I b j := by simp [zU, h]
theorem zU_na {α : Type} {I : Nat → Nat → α} {a k b j : Nat} {v : α} (h : b ≠ a) : zU I a k v b j = I b j := by simp [zU, h]
theorem zRow_na {α : Type} {I : Nat → Nat → α} {a b j : Nat} {f : Nat → α} (h : b ≠ a) : zRow I a f b j = I b j := by simp [zRow, h]
/-- the class's objects as their constructors leave them -/
theorem zkFl_I {f : Nat → Int} {g : Int} (h4 : f 4 = -1) (h6 : f 6 = 0) (h8 : f 8 = 0) (h10 : f 10 = 0) : ∀ k, zok (1, 1, [g]) k (f k) := by
  intro k
  show zokD 1 g [] k (f k)
  match k with
  | 0 => trivial
  | 1 => trivial
  | 2 => trivial
  | 3 => trivial
  | 4 => exact ⟨by omega, by omega⟩
  | 5 => trivial
  | 6 => exact ⟨by omega, by omega⟩
  | 7 => trivial
  | 8 => exact ⟨by omega, by omega⟩
  | 9 => trivial
  | 10 => exact ⟨by omega, by omega⟩
  | _ + 11 => trivial
theorem zkFl_P {T : Nat → zT} {f : Nat → Option Nat} {g : Int} (h0 : f 0 = some (g.toNat + 1)) (h1 : f 1 = some (g.toNat + 2)) (h2 : f 2 = some (g.toNat + 3)) (h5 : f 5 = some (g.toNat + 4)) (h7 : f 7 = some (g.toNat + 5)) (h9 : f 9 = some (g.toNat + 6))  : ∀ k, zop T (1, 1, [g]) k (f k) := by
  intro k
  show zopC T 1 g [] k (f k)
  match k with
  | 0 => exact h0
  | 1 => exact h1
  | 2 => exact h2
  | 3 => trivial
  | 4 => trivial
  | 5 => exact h5
  | 6 => trivial
  | 7 => exact h7
  | 8 => trivial
  | 9 => exact h9
  | _ + 10 => trivial
theorem zkTr_I {f : Nat → Int}  (h1 : f 1 = 0) : ∀ k, zok (1, 10, [1]) k (f k) := by
  intro k
  show zokD 10 1 [] k (f k)
  match k with
  | 0 => trivial
  | 1 => exact ⟨by omega, by omega⟩
  | _ + 2 => trivial
theorem zkTr_P {T : Nat → zT} {f : Nat → Option Nat}  (h0 : f 0 = some 4)  : ∀ k, zop T (1, 10, [1]) k (f k) := by
  intro k
  show zopC T 10 1 [] k (f k)
  match k with
  | 0 => exact h0
  | _ + 1 => trivial
theorem zkRd_I {f : Nat → Int}  (h3 : f 3 = 0) : ∀ k, zok (1, 7, [1]) k (f k) := by
  intro k
  show zokD 7 1 [] k (f k)
  match k with
  | 0 => trivial
  | 1 => trivial
  | 2 => trivial
  | 3 => exact ⟨by omega, by omega⟩
  | _ + 4 => trivial
theorem zkRd_P {T : Nat → zT} {f : Nat → Option Nat}  (h0 : f 0 = some 6) (h1 : f 1 = some 7) (h2 : f 2 = some 8) (h4 : f 4 = none) (h5 : f 5 = none)  : ∀ k, zop T (1, 7, [1]) k (f k) := by
  intro k
  show zopC T 7 1 [] k (f k)
  match k with
  | 0 => exact h0
  | 1 => exact h1
  | 2 => exact h2
  | 3 => trivial
  | 4 => exact Or.inl h4
  | 5 => exact Or.inl h5
  | _ + 6 => trivial
theorem zkCo_I {f : Nat → Int}  (h1 : f 1 = 0) (h10 : f 10 = 0) (h11 : f 11 = 0) (h12 : f 12 = 0) (h13 : f 13 = -1) : ∀ k, zok (1, 0, [1]) k (f k) := by
  intro k
  show zokD 0 1 [] k (f k)
  match k with
  | 0 => trivial
  | 1 => exact ⟨by omega, by omega⟩
  | 2 => trivial
  | 3 => trivial
  | 4 => trivial
  | 5 => trivial
  | 6 => trivial
  | 7 => trivial
  | 8 => trivial
  | 9 => trivial
  | 10 => exact ⟨by omega, by omega⟩
  | 11 => exact ⟨by omega, by omega⟩
  | 12 => exact ⟨by omega, by omega⟩
  | 13 => exact ⟨by omega, by omega⟩
  | _ + 14 => trivial
theorem zkCo_P {T : Nat → zT} {f : Nat → Option Nat}  (h0 : f 0 = some 10) (h3 : f 3 = some 11) (h4 : f 4 = some 12) (h5 : f 5 = some 13) (h6 : f 6 = none) (h7 : f 7 = none)  : ∀ k, zop T (1, 0, [1]) k (f k) := by
  intro k
  show zopC T 0 1 [] k (f k)
  match k with
  | 0 => exact h0
  | 1 => trivial
  | 2 => trivial
  | 3 => exact h3
  | 4 => exact h4
  | 5 => exact h5
  | 6 => exact Or.inl h6
  | 7 => exact Or.inl h7
  | _ + 8 => trivial
theorem zkPa_I {f : Nat → Int}  (h7 : f 7 = 0) (h8 : f 8 = 0) : ∀ k, zok (1, 6, [1]) k (f k) := by
  intro k
  show zokD 6 1 [] k (f k)
  match k with
  | 0 => trivial
  | 1 => trivial
  | 2 => trivial
  | 3 => trivial
  | 4 => trivial
  | 5 => trivial
  | 6 => trivial
  | 7 => exact ⟨by omega, by omega⟩
  | 8 => exact ⟨by omega, by omega⟩
  | _ + 9 => trivial
theorem zkPa_P {T : Nat → zT} {f : Nat → Option Nat}  (h0 : f 0 = some 15) (h1 : f 1 = some 16) (h2 : f 2 = some 17) (h3 : f 3 = none) (h4 : f 4 = none)  : ∀ k, zop T (1, 6, [1]) k (f k) := by
  intro k
  show zopC T 6 1 [] k (f k)
  match k with
  | 0 => exact h0
  | 1 => exact h1
  | 2 => exact h2
  | 3 => exact Or.inl h3
  | 4 => exact Or.inl h4
  | _ + 5 => trivial
theorem zkRm_I {f : Nat → Int} {g : Int} : ∀ k, zok (1, 8, [g]) k (f k) := fun _ => True.intro
theorem zkRm_P {T : Nat → zT} {f : Nat → Option Nat} {g : Int} (h0 : f 0 = some (g.toNat + 1)) (h1 : f 1 = some (g.toNat + 2)) (h2 : f 2 = some (g.toNat + 3)) (h3 : f 3 = some (g.toNat + 4)) (h4 : f 4 = some (g.toNat + 5)) (h5 : f 5 = some (g.toNat + 12))  : ∀ k, zop T (1, 8, [g]) k (f k) := by
  intro k
  show zopC T 8 g [] k (f k)
  match k with
  | 0 => exact h0
  | 1 => exact h1
  | 2 => exact h2
  | 3 => exact h3
  | 4 => exact Or.inl h4
  | 5 => exact Or.inr h5
  | _ + 6 => trivial
theorem zkTy_I {f : Nat → Int}  (h6 : f 6 = 0) : ∀ k, zok (1, 11, [1]) k (f k) := by
  intro k
  show zokD 11 1 [] k (f k)
  match k with
  | 0 => trivial
  | 1 => trivial
  | 2 => trivial
  | 3 => trivial
  | 4 => trivial
  | 5 => trivial
  | 6 => exact ⟨by omega, by omega⟩
  | _ + 7 => trivial
theorem zkTy_P {T : Nat → zT} {f : Nat → Option Nat}  (h0 : f 0 = some 2) (h1 : f 1 = some 3) (h2 : f 2 = some 5) (h3 : f 3 = some 9) (h4 : f 4 = some 14) (h5 : f 5 = some 18)  : ∀ k, zop T (1, 11, [1]) k (f k) := by
  intro k
  show zopC T 11 1 [] k (f k)
  match k with
  | 0 => exact h0
  | 1 => exact h1
  | 2 => exact h2
  | 3 => exact h3
  | 4 => exact h4
  | 5 => exact Or.inl h5
  | _ + 6 => trivial
section ZNK
variable {L : Nat} {xs : Nat → Int32} {y pc pc2 : Nat} {lv : List (Nat × zV)} {r : List zV} {n sl : Nat} {T : Nat → zT} {I : Nat → Nat → Int} {P : Nat → Nat → Option Nat} {G : Nat → Nat → Int} {K : List zV → zH → Prop}
/-- the script -/
theorem z_slen (hc : mpCode pg y pc = some .arraylength) (hp : pc + 1 = pc2) (hb : zB zMd L xs y pc2 lv (.inl (L : Int) :: r) (n, sl, T, I, P, G) K) : zB zMd L xs y pc lv (.inr (.inl (some 0)) :: r) (n, sl, T, I, P, G) K := by
  subst hp
  refine z_hp (st2 := .inl (L : Int) :: r) hc (fun _ _ => rfl) (fun σ hσ => ⟨σ, ?_, hσ⟩) hb
  simp only [mHeap, mHeapC, List.map_cons, zC, va_rf, mLong, Option.map_some]
  rw [show Int32.ofNat L = Int32.ofInt (L : Int) from (Int32.ofInt_eq_ofNat).symm]
theorem z_sald {i : Int} (hc : mpCode pg y pc = some .iaload) (hp : pc + 1 = pc2) (h0 : 0 ≤ i) (h1 : i < L) (hl : L ≤ 1000000) (hb : ∀ v, v = (xs i.toNat).toInt → zR v → zB zMd L xs y pc2 lv (.inl v :: r) (n, sl, T, I, P, G) K) : zB zMd L xs y pc lv (.inl i :: .inr (.inl (some 0)) :: r) (n, sl, T, I, P, G) K := by
  subst hp
  refine z_hp (st2 := .inl (xs i.toNat).toInt :: r) hc (fun _ _ => rfl) (fun σ hσ => ⟨σ, ?_, hσ⟩) (hb _ rfl ⟨Int32.le_toInt _, Int.le_of_lt_add_one (Int32.toInt_lt _)⟩)
  have hin := z_in (e := i) (n := (L : Int)) (by omega) h0 h1
  rw [show ((L : Int)).toNat = L by omega] at hin
  simp only [mHeap, mHeapC, List.map_cons, zC, va_rf, mIA, mInts, Option.bind_some, hin, if_true, z_ix (e := i) (by omega), Int32.ofInt_toInt]
end ZNK
theorem zokN_0 (k : Nat) : zok (2, 0, [112200, 1]) k 0 := by
  show zokN k 0
  refine ⟨fun h => ?_, fun h => ?_, fun h => ?_, fun h => ?_, fun h => zGd_0, fun h => ⟨fun h2 => ?_, fun h2 => ?_⟩, fun h => ?_, fun h => ⟨fun h2 => ?_, fun h2 => ?_, fun h2 => ?_, fun h2 => ?_, fun h2 => zGd_0⟩⟩ <;> omega
theorem zokM_0 : ∀ k, zok (1, 12, []) k 0 := by
  intro k
  show zokM k 0
  unfold zokM
  split <;> first | trivial | omega
theorem zFlr_0 {T : Nat → zT} {I : Nat → Nat → Int} {P : Nat → Nat → Option Nat} {x : Nat} (h : I x 6 = 0 ∧ I x 8 = 0 ∧ I x 10 = 0) : zFlr T I P x := ⟨fun j hj => by omega, fun j hj => by omega, fun j hj => by omega⟩
theorem zCR_0 {T : Nat → zT} {I : Nat → Nat → Int} {P : Nat → Nat → Option Nat} (h1 : P 1 5 = some 18) (h6 : I 1 6 = 0) (a4 : P 18 4 = some 23) (a5 : P 18 5 = some 30) (b4 : P 37 4 = some 42) (b5 : P 37 5 = some 49) (f1 : I 23 6 = 0 ∧ I 23 8 = 0 ∧ I 23 10 = 0) (f2 : I 30 6 = 0 ∧ I 30 8 = 0 ∧ I 30 10 = 0) (f3 : I 42 6 = 0 ∧ I 42 8 = 0 ∧ I 42 10 = 0) (f4 : I 49 6 = 0 ∧ I 49 8 = 0 ∧ I 49 10 = 0) : zCR T I P := by
  refine ⟨by rw [h1, h6]; rfl, fun b hb => ?_, fun x hx => ?_⟩
  · rcases hb with rfl | rfl
    · exact Or.inl ⟨a4, a5⟩
    · exact Or.inl ⟨b4, b5⟩
  · rcases hx with rfl | rfl | rfl | rfl
    · exact zFlr_0 f1
    · exact zFlr_0 f2
    · exact zFlr_0 f3
    · exact zFlr_0 f4
theorem zkMo_P {T : Nat → zT} {f : Nat → Option Nat} (h : ∀ k, k < 49 → f k = zMA k) (h2 : ∀ k, 49 ≤ k → f k = none) : ∀ k, zop T (1, 12, [1]) k (f k) := by
  intro k
  show f k = zMA k
  by_cases e : k < 49
  · exact h k e
  · rw [h2 k (by omega)]
    unfold zMA
    split <;> first | rfl | (exfalso; omega)
theorem zRl_0 {I : Nat → Nat → Int} (h80 : ∀ t, I 80 t = 0) (h61 : ∀ i, i < 8 → I 61 i = -1) (h : ∀ A r, (A = 57 ∨ A = 58) → r < 2 → I A (56100 * r + 164) = 0 ∧ I A (56100 * r + 165) = 0 ∧ I A (56100 * r + 166) = 0 ∧ I A (56100 * r + 167) = 0) : zRl I := by
  refine ⟨fun t ht => ?_, fun i hi h0 => ?_, fun A r hA hr => ?_⟩
  · rw [h80] at ht; omega
  · rw [h61 i hi] at h0; omega
  · obtain ⟨g1, g2, g3, g4⟩ := h A r hA hr
    refine ⟨by omega, by omega, by omega, ?_, Or.inl g2, fun l hl => ?_⟩
    · rw [g3, g4]; rfl
    · rw [g1] at hl; omega
